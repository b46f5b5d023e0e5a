theorem dX7_fewestIn_0 : decode cX7_fewestIn 0 = .ok (.iload_n 1, 1) := by decide +kernel
theorem dX7_fewestIn_1 : decode cX7_fewestIn 1 = .ok (.aload_n 0, 1) := by decide +kernel
theorem dX7_fewestIn_2 : decode cX7_fewestIn 2 = .ok (.getfield 43, 3) := by decide +kernel
theorem dX7_fewestIn_5 : decode cX7_fewestIn 5 = .ok (.if_icmp .ge 7, 3) := by decide +kernel
theorem dX7_fewestIn_8 : decode cX7_fewestIn 8 = .ok (.iconst 1, 1) := by decide +kernel
theorem dX7_fewestIn_9 : decode cX7_fewestIn 9 = .ok (.goto 4, 3) := by decide +kernel
theorem dX7_fewestIn_12 : decode cX7_fewestIn 12 = .ok (.iconst 0, 1) := by decide +kernel
theorem dX7_fewestIn_13 : decode cX7_fewestIn 13 = .ok (.ireturn, 1) := by decide +kernel
set_option maxHeartbeats 4000000 in
set_option maxRecDepth 100000 in
theorem k_X7_fewestIn (l : Launch) (D : va_G) (cy : Nat → ClassId) {L : List Nat} {τ : Nat → Ro} {E : Ec} (hI : Inv TB cy L τ E) {a0 : Nat} (ha0 : a0 ∈ L) (ta0 : τ a0 = (8, 0)) (a1 : Int32) : CtI l yX7_fewestIn wsX7_fewestIn { frames := 0, cells := 0, slots := 0, locals := 0 } D TB cy L τ E [.ref a0, .int a1] (inW []) (fun r E' => E' = E ∧ 0 ≤ r.toInt ∧ r.toInt ≤ 1) := by
  intro sz
  refine sta (cc := cX7_fewestIn) (maxL := 2) hI (by decide) rfl (Nat.le_of_ble_eq_true rfl) (fun p e s m args below meth c ls hsz Z S0 hl => ?_)
  have hx := Z.1.1
  have hb := Z.1.2.1
  have hts := Z.1.2.2.2.2
  have F0_ : Fr L τ (inW []) E E := Fr.refl
  have hl : lv_has ls 2 [(0, .ref a0), (1, .int a1)] := hl
  generalize hQ : MQ below _ args s 0 0 _ = QQ
  refine lv_iload_n hx hb dX7_fewestIn_0 rfl (lv_at hl 1 rfl) ?_
  refine lv_aload_n hx hb dX7_fewestIn_1 rfl (lv_at hl 0 rfl) ?_
  refine tr_geti Z.1 Z.2.2.2.1 S0.1 S0.2 ha0 ta0 rfl rfl (fun _ h => List.mem_cons_of_mem _ (List.mem_append_right _ h)) 6 (by decide) rfl (hts _ (List.mem_of_getElem? (i := 1) rfl)) dX7_fewestIn_2 (fun v1 ev1 lv1 uv1 => ?_)
  refine lv_icmp_ge (tgt := 12) hx hb dX7_fewestIn_5 (by decide) (fun c2 => ?_) (fun c2 => ?_)
  · skip
    have tc2 := nu_le c2
    obtain ⟨v3, ev3, tv3⟩ : ∃ v : Int32, Int32.ofInt (0) = v ∧ v.toInt = 0 := ⟨_, rfl, by decide +kernel⟩
    refine lv_iconst hx hb dX7_fewestIn_12 ev3 ?_
    rw [← hQ]
    exact en_i Z S0 F0_ ⟨rfl, (by omega), (by omega)⟩ dX7_fewestIn_13
  · skip
    have tc2 := nu_nle c2
    obtain ⟨v4, ev4, tv4⟩ : ∃ v : Int32, Int32.ofInt (1) = v ∧ v.toInt = 1 := ⟨_, rfl, by decide +kernel⟩
    refine lv_iconst hx hb dX7_fewestIn_8 ev4 ?_
    refine lv_goto (tgt := 13) hx hb dX7_fewestIn_9 (by decide) ?_
    rw [← hQ]
    exact en_i Z S0 F0_ ⟨rfl, (by omega), (by omega)⟩ dX7_fewestIn_13

theorem dX7_mostIn_0 : decode cX7_mostIn 0 = .ok (.iload_n 1, 1) := by decide +kernel
theorem dX7_mostIn_1 : decode cX7_mostIn 1 = .ok (.aload_n 0, 1) := by decide +kernel
theorem dX7_mostIn_2 : decode cX7_mostIn 2 = .ok (.getfield 43, 3) := by decide +kernel
theorem dX7_mostIn_5 : decode cX7_mostIn 5 = .ok (.if_icmp .ge 8, 3) := by decide +kernel
theorem dX7_mostIn_8 : decode cX7_mostIn 8 = .ok (.bipush 20, 2) := by decide +kernel
theorem dX7_mostIn_10 : decode cX7_mostIn 10 = .ok (.goto 4, 3) := by decide +kernel
theorem dX7_mostIn_13 : decode cX7_mostIn 13 = .ok (.iconst 0, 1) := by decide +kernel
theorem dX7_mostIn_14 : decode cX7_mostIn 14 = .ok (.ireturn, 1) := by decide +kernel
set_option maxHeartbeats 4000000 in
set_option maxRecDepth 100000 in
theorem k_X7_mostIn (l : Launch) (D : va_G) (cy : Nat → ClassId) {L : List Nat} {τ : Nat → Ro} {E : Ec} (hI : Inv TB cy L τ E) {a0 : Nat} (ha0 : a0 ∈ L) (ta0 : τ a0 = (8, 0)) (a1 : Int32) : CtI l yX7_mostIn wsX7_mostIn { frames := 0, cells := 0, slots := 0, locals := 0 } D TB cy L τ E [.ref a0, .int a1] (inW []) (fun r E' => E' = E ∧ 0 ≤ r.toInt ∧ r.toInt ≤ 20) := by
  intro sz
  refine sta (cc := cX7_mostIn) (maxL := 2) hI (by decide) rfl (Nat.le_of_ble_eq_true rfl) (fun p e s m args below meth c ls hsz Z S0 hl => ?_)
  have hx := Z.1.1
  have hb := Z.1.2.1
  have hts := Z.1.2.2.2.2
  have F0_ : Fr L τ (inW []) E E := Fr.refl
  have hl : lv_has ls 2 [(0, .ref a0), (1, .int a1)] := hl
  generalize hQ : MQ below _ args s 0 0 _ = QQ
  refine lv_iload_n hx hb dX7_mostIn_0 rfl (lv_at hl 1 rfl) ?_
  refine lv_aload_n hx hb dX7_mostIn_1 rfl (lv_at hl 0 rfl) ?_
  refine tr_geti Z.1 Z.2.2.2.1 S0.1 S0.2 ha0 ta0 rfl rfl (fun _ h => List.mem_cons_of_mem _ (List.mem_append_right _ h)) 6 (by decide) rfl (hts _ (List.mem_of_getElem? (i := 1) rfl)) dX7_mostIn_2 (fun v1 ev1 lv1 uv1 => ?_)
  refine lv_icmp_ge (tgt := 13) hx hb dX7_mostIn_5 (by decide) (fun c2 => ?_) (fun c2 => ?_)
  · skip
    have tc2 := nu_le c2
    obtain ⟨v3, ev3, tv3⟩ : ∃ v : Int32, Int32.ofInt (0) = v ∧ v.toInt = 0 := ⟨_, rfl, by decide +kernel⟩
    refine lv_iconst hx hb dX7_mostIn_13 ev3 ?_
    rw [← hQ]
    exact en_i Z S0 F0_ ⟨rfl, (by omega), (by omega)⟩ dX7_mostIn_14
  · skip
    have tc2 := nu_nle c2
    obtain ⟨v4, ev4, tv4⟩ : ∃ v : Int32, (Int8.ofInt (20)).toInt32 = v ∧ v.toInt = 20 := ⟨_, rfl, by decide +kernel⟩
    refine lv_bipush hx hb dX7_mostIn_8 ev4 ?_
    refine lv_goto (tgt := 14) hx hb dX7_mostIn_10 (by decide) ?_
    rw [← hQ]
    exact en_i Z S0 F0_ ⟨rfl, (by omega), (by omega)⟩ dX7_mostIn_14

theorem dX7_toldTreads_0 : decode cX7_toldTreads 0 = .ok (.aload_n 0, 1) := by decide +kernel
theorem dX7_toldTreads_1 : decode cX7_toldTreads 1 = .ok (.getfield 50, 3) := by decide +kernel
theorem dX7_toldTreads_4 : decode cX7_toldTreads 4 = .ok (.ifCond .le 20, 3) := by decide +kernel
theorem dX7_toldTreads_7 : decode cX7_toldTreads 7 = .ok (.iload_n 1, 1) := by decide +kernel
theorem dX7_toldTreads_8 : decode cX7_toldTreads 8 = .ok (.aload_n 0, 1) := by decide +kernel
theorem dX7_toldTreads_9 : decode cX7_toldTreads 9 = .ok (.getfield 43, 3) := by decide +kernel
theorem dX7_toldTreads_12 : decode cX7_toldTreads 12 = .ok (.if_icmp .ge 12, 3) := by decide +kernel
theorem dX7_toldTreads_15 : decode cX7_toldTreads 15 = .ok (.aload_n 0, 1) := by decide +kernel
theorem dX7_toldTreads_16 : decode cX7_toldTreads 16 = .ok (.getfield 36, 3) := by decide +kernel
theorem dX7_toldTreads_19 : decode cX7_toldTreads 19 = .ok (.iload_n 1, 1) := by decide +kernel
theorem dX7_toldTreads_20 : decode cX7_toldTreads 20 = .ok (.iaload, 1) := by decide +kernel
theorem dX7_toldTreads_21 : decode cX7_toldTreads 21 = .ok (.goto 4, 3) := by decide +kernel
theorem dX7_toldTreads_24 : decode cX7_toldTreads 24 = .ok (.iconst (-1), 1) := by decide +kernel
theorem dX7_toldTreads_25 : decode cX7_toldTreads 25 = .ok (.ireturn, 1) := by decide +kernel
set_option maxHeartbeats 4000000 in
set_option maxRecDepth 100000 in
theorem k_X7_toldTreads (l : Launch) (D : va_G) (cy : Nat → ClassId) {L : List Nat} {τ : Nat → Ro} {E : Ec} (hI : Inv TB cy L τ E) {a0 : Nat} (ha0 : a0 ∈ L) (ta0 : τ a0 = (8, 0)) (a1 : Int32) (la1 : 0 ≤ a1.toInt) (ua1 : a1.toInt ≤ 2) : CtI l yX7_toldTreads wsX7_toldTreads { frames := 0, cells := 0, slots := 0, locals := 0 } D TB cy L τ E [.ref a0, .int a1] (inW []) (fun r E' => E' = E) := by
  intro sz
  refine sta (cc := cX7_toldTreads) (maxL := 2) hI (by decide) rfl (Nat.le_of_ble_eq_true rfl) (fun p e s m args below meth c ls hsz Z S0 hl => ?_)
  have hx := Z.1.1
  have hb := Z.1.2.1
  have hts := Z.1.2.2.2.2
  have F0_ : Fr L τ (inW []) E E := Fr.refl
  have hl : lv_has ls 2 [(0, .ref a0), (1, .int a1)] := hl
  generalize hQ : MQ below _ args s 0 0 _ = QQ
  refine lv_aload_n hx hb dX7_toldTreads_0 rfl (lv_at hl 0 rfl) ?_
  refine tr_geti Z.1 Z.2.2.2.1 S0.1 S0.2 ha0 ta0 rfl rfl (fun _ h => List.mem_cons_of_mem _ (List.mem_append_right _ h)) 8 (by decide) rfl (hts _ (List.mem_of_getElem? (i := 1) rfl)) dX7_toldTreads_1 (fun v1 ev1 lv1 uv1 => ?_)
  refine lv_if_le (tgt := 24) hx hb dX7_toldTreads_4 (by decide) (fun c2 => ?_) (fun c2 => ?_)
  · skip
    have tc2 := nu_le c2
    have uc2 : (0 : Int32).toInt = 0 := rfl
    obtain ⟨v3, ev3, tv3⟩ : ∃ v : Int32, Int32.ofInt (-1) = v ∧ v.toInt = -1 := ⟨_, rfl, by decide +kernel⟩
    refine lv_iconst hx hb dX7_toldTreads_24 ev3 ?_
    rw [← hQ]
    exact en_i Z S0 F0_ rfl dX7_toldTreads_25
  · skip
    have tc2 := nu_nle c2
    have uc2 : (0 : Int32).toInt = 0 := rfl
    refine lv_iload_n hx hb dX7_toldTreads_7 rfl (lv_at hl 1 rfl) ?_
    refine lv_aload_n hx hb dX7_toldTreads_8 rfl (lv_at hl 0 rfl) ?_
    refine tr_geti Z.1 Z.2.2.2.1 S0.1 S0.2 ha0 ta0 rfl rfl (fun _ h => List.mem_cons_of_mem _ (List.mem_append_right _ h)) 6 (by decide) rfl (hts _ (List.mem_of_getElem? (i := 2) rfl)) dX7_toldTreads_9 (fun v4 ev4 lv4 uv4 => ?_)
    refine lv_icmp_ge (tgt := 24) hx hb dX7_toldTreads_12 (by decide) (fun c5 => ?_) (fun c5 => ?_)
    · skip
      have tc5 := nu_le c5
      obtain ⟨v6, ev6, tv6⟩ : ∃ v : Int32, Int32.ofInt (-1) = v ∧ v.toInt = -1 := ⟨_, rfl, by decide +kernel⟩
      refine lv_iconst hx hb dX7_toldTreads_24 ev6 ?_
      rw [← hQ]
      exact en_i Z S0 F0_ rfl dX7_toldTreads_25
    · skip
      have tc5 := nu_nle c5
      refine lv_aload_n hx hb dX7_toldTreads_15 rfl (lv_at hl 0 rfl) ?_
      refine tr_getr Z.1 Z.2.2.2.1 S0.1 S0.2 ha0 ta0 rfl rfl (fun _ h => List.mem_cons_of_mem _ (List.mem_append_right _ h)) 4 (by decide) rfl (hts _ (List.mem_of_getElem? (i := 3) rfl)) dX7_toldTreads_16 (fun q7 eq7 hq7 tq7 => ?_)
      have tq7 : τ q7 = (38, 0) := tq7
      refine lv_iload_n hx hb dX7_toldTreads_19 rfl (lv_at hl 1 rfl) ?_
      refine tr_iald Z.1 Z.2.2.2.1 S0.1 S0.2 hq7 tq7 rfl (by omega) (by omega) dX7_toldTreads_20 (fun v8 ev8 lv8 uv8 => ?_)
      refine lv_goto (tgt := 25) hx hb dX7_toldTreads_21 (by decide) ?_
      rw [← hQ]
      exact en_i Z S0 F0_ rfl dX7_toldTreads_25

set_option maxRecDepth 20000 in
theorem ggX7_keepIfLess_X6_cost : GoodIn wsX7_keepIfLess wsX6_cost := goodIn_r _ [16, 17, 18, 19, 20, 48, 49, 50, 51, 52, 32, 33, 34, 35, 36, 37, 38, 39, 40, 41, 42, 43, 44, 45, 46, 47] (by decide +kernel) (by decide +kernel)
set_option maxRecDepth 20000 in
theorem gX7_keepIfLess_X6_cost : GoodIn wsX7_keepIfLess (wsV RX7 91 RX6 yX6_cost wsX6_cost) := goodIn_app (goodIn_of _ (by decide +kernel)) ggX7_keepIfLess_X6_cost
theorem dX7_keepIfLess_0 : decode cX7_keepIfLess 0 = .ok (.aload_n 0, 1) := by decide +kernel
theorem dX7_keepIfLess_1 : decode cX7_keepIfLess 1 = .ok (.getfield 21, 3) := by decide +kernel
theorem dX7_keepIfLess_4 : decode cX7_keepIfLess 4 = .ok (.aload_n 0, 1) := by decide +kernel
theorem dX7_keepIfLess_5 : decode cX7_keepIfLess 5 = .ok (.getfield 12, 3) := by decide +kernel
theorem dX7_keepIfLess_8 : decode cX7_keepIfLess 8 = .ok (.invokevirtual 91, 3) := by decide +kernel
theorem dX7_keepIfLess_11 : decode cX7_keepIfLess 11 = .ok (.istore_n 2, 1) := by decide +kernel
theorem dX7_keepIfLess_12 : decode cX7_keepIfLess 12 = .ok (.aload_n 0, 1) := by decide +kernel
theorem dX7_keepIfLess_13 : decode cX7_keepIfLess 13 = .ok (.getfield 50, 3) := by decide +kernel
theorem dX7_keepIfLess_16 : decode cX7_keepIfLess 16 = .ok (.ifCond .eq 11, 3) := by decide +kernel
theorem dX7_keepIfLess_19 : decode cX7_keepIfLess 19 = .ok (.iload_n 2, 1) := by decide +kernel
theorem dX7_keepIfLess_20 : decode cX7_keepIfLess 20 = .ok (.aload_n 0, 1) := by decide +kernel
theorem dX7_keepIfLess_21 : decode cX7_keepIfLess 21 = .ok (.getfield 56, 3) := by decide +kernel
theorem dX7_keepIfLess_24 : decode cX7_keepIfLess 24 = .ok (.if_icmp .ge 30, 3) := by decide +kernel
theorem dX7_keepIfLess_27 : decode cX7_keepIfLess 27 = .ok (.aload_n 0, 1) := by decide +kernel
theorem dX7_keepIfLess_28 : decode cX7_keepIfLess 28 = .ok (.iload_n 2, 1) := by decide +kernel
theorem dX7_keepIfLess_29 : decode cX7_keepIfLess 29 = .ok (.putfield 56, 3) := by decide +kernel
theorem dX7_keepIfLess_32 : decode cX7_keepIfLess 32 = .ok (.aload_n 0, 1) := by decide +kernel
theorem dX7_keepIfLess_33 : decode cX7_keepIfLess 33 = .ok (.iload_n 1, 1) := by decide +kernel
theorem dX7_keepIfLess_34 : decode cX7_keepIfLess 34 = .ok (.putfield 53, 3) := by decide +kernel
theorem dX7_keepIfLess_37 : decode cX7_keepIfLess 37 = .ok (.aload_n 0, 1) := by decide +kernel
theorem dX7_keepIfLess_38 : decode cX7_keepIfLess 38 = .ok (.getfield 12, 3) := by decide +kernel
theorem dX7_keepIfLess_41 : decode cX7_keepIfLess 41 = .ok (.getfield 79, 3) := by decide +kernel
theorem dX7_keepIfLess_44 : decode cX7_keepIfLess 44 = .ok (.iconst 0, 1) := by decide +kernel
theorem dX7_keepIfLess_45 : decode cX7_keepIfLess 45 = .ok (.aload_n 0, 1) := by decide +kernel
theorem dX7_keepIfLess_46 : decode cX7_keepIfLess 46 = .ok (.getfield 36, 3) := by decide +kernel
theorem dX7_keepIfLess_49 : decode cX7_keepIfLess 49 = .ok (.iconst 0, 1) := by decide +kernel
theorem dX7_keepIfLess_50 : decode cX7_keepIfLess 50 = .ok (.iconst 3, 1) := by decide +kernel
theorem dX7_keepIfLess_51 : decode cX7_keepIfLess 51 = .ok (.invokestatic 94, 3) := by decide +kernel
theorem dX7_keepIfLess_54 : decode cX7_keepIfLess 54 = .ok (.aload_n 0, 1) := by decide +kernel
theorem dX7_keepIfLess_55 : decode cX7_keepIfLess 55 = .ok (.dup, 1) := by decide +kernel
theorem dX7_keepIfLess_56 : decode cX7_keepIfLess 56 = .ok (.getfield 50, 3) := by decide +kernel
theorem dX7_keepIfLess_59 : decode cX7_keepIfLess 59 = .ok (.iconst 1, 1) := by decide +kernel
theorem dX7_keepIfLess_60 : decode cX7_keepIfLess 60 = .ok (.iadd, 1) := by decide +kernel
theorem dX7_keepIfLess_61 : decode cX7_keepIfLess 61 = .ok (.putfield 50, 3) := by decide +kernel
theorem dX7_keepIfLess_64 : decode cX7_keepIfLess 64 = .ok (.return_, 1) := by decide +kernel
set_option maxHeartbeats 4000000 in
set_option maxRecDepth 100000 in
theorem k_X7_keepIfLess (l : Launch) (D : va_G) (cy : Nat → ClassId) {L : List Nat} {τ : Nat → Ro} {E : Ec} (hI : Inv TB cy L τ E) {a0 : Nat} (ha0 : a0 ∈ L) (ta0 : τ a0 = (8, 0)) (a1 : Int32) : CtV l yX7_keepIfLess wsX7_keepIfLess { frames := 1, cells := 0, slots := 0, locals := 40 } D TB cy L τ E [.ref a0, .int a1] (inW [(8, 0), (38, 0)]) (fun E' => True) := by
  intro sz
  refine sta (cc := cX7_keepIfLess) (maxL := 3) hI (by decide) rfl (Nat.le_of_ble_eq_true rfl) (fun p e s m args below meth c ls hsz Z S0 hl => ?_)
  have hx := Z.1.1
  have hb := Z.1.2.1
  have hts := Z.1.2.2.2.2
  have F0_ : Fr L τ (inW [(8, 0), (38, 0)]) E E := Fr.refl
  have hl : lv_has ls 3 [(0, .ref a0), (1, .int a1)] := hl
  generalize hQ : MQ below _ args s 0 0 _ = QQ
  have J54 : ∀  (E_54 : Ec) (H_54 : Heap) (k_54 : List Loc) (l_54 : Array Slot), Now D TB cy (va_A (va_pl L E) sz) s L τ E_54 H_54 k_54 → Fr L τ (inW [(8, 0), (38, 0)]) E E_54 → lv_has l_54 3 [(0, .ref a0)] → W p l e { frames := 1, cells := 0, slots := 0, locals := 40 } s m args below meth c H_54 k_54 0 0 QQ (F0 m 54 l_54 []) := by
    intro  E_54 H_54 k_54 l_54 S_54 F_54  hl_54
    refine lv_aload_n hx hb dX7_keepIfLess_54 rfl (lv_at hl_54 0 rfl) ?_
    refine lv_dup hx hb dX7_keepIfLess_55 rfl ?_
    refine tr_geti Z.1 Z.2.2.2.1 S_54.1 S_54.2 ha0 ta0 rfl rfl (fun _ h => List.mem_cons_of_mem _ (List.mem_append_left _ (List.mem_append_left _ (List.mem_append_right _ h)))) 8 (by decide) rfl (hts _ (List.mem_of_getElem? (i := 3) rfl)) dX7_keepIfLess_56 (fun v1 ev1 lv1 uv1 => ?_)
    obtain ⟨v2, ev2, tv2⟩ : ∃ v : Int32, Int32.ofInt (1) = v ∧ v.toInt = 1 := ⟨_, rfl, by decide +kernel⟩
    refine lv_iconst hx hb dX7_keepIfLess_59 ev2 ?_
    refine lv_iadd hx hb dX7_keepIfLess_60 ?_
    refine lv_topi (fun v3 ev3 => ?_)
    refine tr_puti Z.1 Z.2.2.2.1 S_54.1 S_54.2 ha0 ta0 rfl rfl (fun _ h => List.mem_cons_of_mem _ (List.mem_append_left _ (List.mem_append_left _ (List.mem_append_right _ h)))) tyX7_ok nmX7 8 (by decide) rfl rfl rfl (hts _ (List.mem_of_getElem? (i := 3) rfl)) dX7_keepIfLess_61 (by have := fb_rng v3; omega) (by have := fb_rng v3; omega) (fun E4 H5 k6 W4 I4 P4 => ?_)
    have S4 : Now D TB cy (va_A (va_pl L E) sz) s L τ E4 H5 k6 := ⟨W4, I4⟩
    have F4 : Fr L τ (inW [(8, 0), (38, 0)]) E E4 := Fr.put F_54 P4 ta0 rfl
    rw [← hQ]
    exact en_v Z S4 F4 trivial dX7_keepIfLess_64
  have J27 : ∀ (x2_27 : Int32) (E_27 : Ec) (H_27 : Heap) (k_27 : List Loc) (l_27 : Array Slot), Now D TB cy (va_A (va_pl L E) sz) s L τ E_27 H_27 k_27 → Fr L τ (inW [(8, 0), (38, 0)]) E E_27 → lv_has l_27 3 [(0, .ref a0), (1, .int a1), (2, .int x2_27)] → W p l e { frames := 1, cells := 0, slots := 0, locals := 40 } s m args below meth c H_27 k_27 0 0 QQ (F0 m 27 l_27 []) := by
    intro x2_27 E_27 H_27 k_27 l_27 S_27 F_27  hl_27
    refine lv_aload_n hx hb dX7_keepIfLess_27 rfl (lv_at hl_27 0 rfl) ?_
    refine lv_iload_n hx hb dX7_keepIfLess_28 rfl (lv_at hl_27 2 rfl) ?_
    refine tr_puti Z.1 Z.2.2.2.1 S_27.1 S_27.2 ha0 ta0 rfl rfl (fun _ h => List.mem_cons_of_mem _ (List.mem_append_left _ (List.mem_append_left _ (List.mem_append_right _ h)))) tyX7_ok nmX7 10 (by decide) rfl rfl rfl (hts _ (List.mem_of_getElem? (i := 4) rfl)) dX7_keepIfLess_29 (by have := fb_rng x2_27; omega) (by have := fb_rng x2_27; omega) (fun E7 H8 k9 W7 I7 P7 => ?_)
    have S7 : Now D TB cy (va_A (va_pl L E) sz) s L τ E7 H8 k9 := ⟨W7, I7⟩
    have F7 : Fr L τ (inW [(8, 0), (38, 0)]) E E7 := Fr.put F_27 P7 ta0 rfl
    refine lv_aload_n hx hb dX7_keepIfLess_32 rfl (lv_at hl_27 0 rfl) ?_
    refine lv_iload_n hx hb dX7_keepIfLess_33 rfl (lv_at hl_27 1 rfl) ?_
    refine tr_puti Z.1 Z.2.2.2.1 S7.1 S7.2 ha0 ta0 rfl rfl (fun _ h => List.mem_cons_of_mem _ (List.mem_append_left _ (List.mem_append_left _ (List.mem_append_right _ h)))) tyX7_ok nmX7 9 (by decide) rfl rfl rfl (hts _ (List.mem_of_getElem? (i := 5) rfl)) dX7_keepIfLess_34 (by have := fb_rng a1; omega) (by have := fb_rng a1; omega) (fun E10 H11 k12 W10 I10 P10 => ?_)
    have S10 : Now D TB cy (va_A (va_pl L E) sz) s L τ E10 H11 k12 := ⟨W10, I10⟩
    have F10 : Fr L τ (inW [(8, 0), (38, 0)]) E E10 := Fr.put F7 P10 ta0 rfl
    refine lv_aload_n hx hb dX7_keepIfLess_37 rfl (lv_at hl_27 0 rfl) ?_
    refine tr_getr Z.1 Z.2.2.2.1 S10.1 S10.2 ha0 ta0 rfl rfl (fun _ h => List.mem_cons_of_mem _ (List.mem_append_left _ (List.mem_append_left _ (List.mem_append_right _ h)))) 0 (by decide) rfl (hts _ (List.mem_of_getElem? (i := 2) rfl)) dX7_keepIfLess_38 (fun q13 eq13 hq13 tq13 => ?_)
    have tq13 : τ q13 = (1, 2) := tq13
    refine tr_getr Z.1 Z.2.2.2.1 S10.1 S10.2 hq13 tq13 rfl rfl (fun _ h => List.mem_cons_of_mem _ (List.mem_append_left _ (List.mem_append_right _ h))) 8 (by decide) rfl (hts _ (List.mem_of_getElem? (i := 6) rfl)) dX7_keepIfLess_41 (fun q14 eq14 hq14 tq14 => ?_)
    have tq14 : τ q14 = (20, 2) := tq14
    obtain ⟨v15, ev15, tv15⟩ : ∃ v : Int32, Int32.ofInt (0) = v ∧ v.toInt = 0 := ⟨_, rfl, by decide +kernel⟩
    refine lv_iconst hx hb dX7_keepIfLess_44 ev15 ?_
    refine lv_aload_n hx hb dX7_keepIfLess_45 rfl (lv_at hl_27 0 rfl) ?_
    refine tr_getr Z.1 Z.2.2.2.1 S10.1 S10.2 ha0 ta0 rfl rfl (fun _ h => List.mem_cons_of_mem _ (List.mem_append_left _ (List.mem_append_left _ (List.mem_append_right _ h)))) 4 (by decide) rfl (hts _ (List.mem_of_getElem? (i := 7) rfl)) dX7_keepIfLess_46 (fun q16 eq16 hq16 tq16 => ?_)
    have tq16 : τ q16 = (38, 0) := tq16
    obtain ⟨v17, ev17, tv17⟩ : ∃ v : Int32, Int32.ofInt (0) = v ∧ v.toInt = 0 := ⟨_, rfl, by decide +kernel⟩
    refine lv_iconst hx hb dX7_keepIfLess_49 ev17 ?_
    obtain ⟨v18, ev18, tv18⟩ : ∃ v : Int32, Int32.ofInt (3) = v ∧ v.toInt = 3 := ⟨_, rfl, by decide +kernel⟩
    refine lv_iconst hx hb dX7_keepIfLess_50 ev18 ?_
    refine tr_copy Z.1 hl_27.1 Z.2.2.2.1 S10.1 S10.2 hq14 tq14 rfl hq16 tq16 rfl (by decide) (hts _ (List.mem_of_getElem? (i := 8) rfl)) (hts _ (List.mem_of_getElem? (i := 9) rfl)) (hts _ (List.mem_of_getElem? (i := 10) rfl)) (hts _ (List.mem_of_getElem? (i := 11) rfl)) 3 (by decide) (by decide) (by omega) (by omega) (by omega) (Nat.le_of_ble_eq_true rfl) (Nat.le_of_ble_eq_true rfl) dX7_keepIfLess_51 (fun E19 H20 k21 W19 I19 P19 => ?_)
    have S19 : Now D TB cy (va_A (va_pl L E) sz) s L τ E19 H20 k21 := ⟨W19, I19⟩
    have F19 : Fr L τ (inW [(8, 0), (38, 0)]) E E19 := Fr.cop F10 P19 tq16 rfl
    exact J54 E19 H20 k21 l_27 S19 F19 (lv_sub hl_27 [0] rfl)
  refine lv_aload_n hx hb dX7_keepIfLess_0 rfl (lv_at hl 0 rfl) ?_
  refine tr_getr Z.1 Z.2.2.2.1 S0.1 S0.2 ha0 ta0 rfl rfl (fun _ h => List.mem_cons_of_mem _ (List.mem_append_left _ (List.mem_append_left _ (List.mem_append_right _ h)))) 1 (by decide) rfl (hts _ (List.mem_of_getElem? (i := 1) rfl)) dX7_keepIfLess_1 (fun q22 eq22 hq22 tq22 => ?_)
  have tq22 : τ q22 = (5, 1) := tq22
  refine lv_aload_n hx hb dX7_keepIfLess_4 rfl (lv_at hl 0 rfl) ?_
  refine tr_getr Z.1 Z.2.2.2.1 S0.1 S0.2 ha0 ta0 rfl rfl (fun _ h => List.mem_cons_of_mem _ (List.mem_append_left _ (List.mem_append_left _ (List.mem_append_right _ h)))) 0 (by decide) rfl (hts _ (List.mem_of_getElem? (i := 2) rfl)) dX7_keepIfLess_5 (fun q23 eq23 hq23 tq23 => ?_)
  have tq23 : τ q23 = (1, 2) := tq23
  refine tc_vi Z.1 Z.2.2.2.1 Z.2.2.2.2.1 Z.2.2.2.2.2 S0.1 S0.2 hq22 tq22 rfl rfl (k_X6_cost_v1 l D cy S0.2 hq22 tq22 hq23 tq23) (cwV 1 hts gX7_keepIfLess_X6_cost rfl rfl rfl (by decide +kernel) ⟨Nat.le_of_ble_eq_true rfl, Nat.le_of_ble_eq_true rfl⟩) rfl hl.1 rfl (Nat.le_of_ble_eq_true rfl) dX7_keepIfLess_8 ⟨Nat.zero_le _, Nat.zero_le _⟩ (fun v27 E24 H25 k26 W24 I24 G24 p24 => ?_)
  have q24 := p24
  have q24 := q24.symm
  subst q24
  have S24 : Now D TB cy (va_A (va_pl L E) sz) s L τ E H25 k26 := ⟨W24, I24⟩
  refine lv_istore_n (lv' := [(2, .int v27), (0, .ref a0), (1, .int a1)]) hx hb dX7_keepIfLess_11 rfl hl (by decide) rfl (fun l28 hl29 => ?_)
  refine lv_aload_n hx hb dX7_keepIfLess_12 rfl (lv_at hl29 1 rfl) ?_
  refine tr_geti Z.1 Z.2.2.2.1 S24.1 S24.2 ha0 ta0 rfl rfl (fun _ h => List.mem_cons_of_mem _ (List.mem_append_left _ (List.mem_append_left _ (List.mem_append_right _ h)))) 8 (by decide) rfl (hts _ (List.mem_of_getElem? (i := 3) rfl)) dX7_keepIfLess_13 (fun v30 ev30 lv30 uv30 => ?_)
  refine lv_if_eq (tgt := 27) hx hb dX7_keepIfLess_16 (by decide) (fun c31 => ?_) (fun c31 => ?_)
  · skip
    have tc31 := nu_eq c31
    have uc31 : (0 : Int32).toInt = 0 := rfl
    exact J27 v27 E H25 k26 l28 S24 F0_ (lv_sub hl29 [1, 2, 0] rfl)
  · skip
    have tc31 := nu_ne c31
    have uc31 : (0 : Int32).toInt = 0 := rfl
    refine lv_iload_n hx hb dX7_keepIfLess_19 rfl (lv_at hl29 0 rfl) ?_
    refine lv_aload_n hx hb dX7_keepIfLess_20 rfl (lv_at hl29 1 rfl) ?_
    refine tr_geti Z.1 Z.2.2.2.1 S24.1 S24.2 ha0 ta0 rfl rfl (fun _ h => List.mem_cons_of_mem _ (List.mem_append_left _ (List.mem_append_left _ (List.mem_append_right _ h)))) 10 (by decide) rfl (hts _ (List.mem_of_getElem? (i := 4) rfl)) dX7_keepIfLess_21 (fun v32 ev32 lv32 uv32 => ?_)
    refine lv_icmp_ge (tgt := 54) hx hb dX7_keepIfLess_24 (by decide) (fun c33 => ?_) (fun c33 => ?_)
    · skip
      have tc33 := nu_le c33
      exact J54 E H25 k26 l28 S24 F0_ (lv_sub hl29 [1] rfl)
    · skip
      have tc33 := nu_nle c33
      exact J27 v27 E H25 k26 l28 S24 F0_ (lv_sub hl29 [1, 2, 0] rfl)

set_option maxRecDepth 20000 in
theorem ggX7_tryWay_X7_fewestIn : GoodIn wsX7_tryWay wsX7_fewestIn := goodIn_r _ [11, 12, 147, 148, 149, 150, 151, 152, 153, 154, 155, 156, 157] (by decide +kernel) (by decide +kernel)
set_option maxRecDepth 20000 in
theorem gX7_tryWay_X7_fewestIn : GoodIn wsX7_tryWay (wsV RX7 68 RX7 yX7_fewestIn wsX7_fewestIn) := goodIn_app (goodIn_of _ (by decide +kernel)) ggX7_tryWay_X7_fewestIn
set_option maxRecDepth 20000 in
theorem ggX7_tryWay_X7_mostIn : GoodIn wsX7_tryWay wsX7_mostIn := goodIn_r _ [16, 12, 147, 148, 149, 150, 151, 152, 153, 154, 155, 156, 157] (by decide +kernel) (by decide +kernel)
set_option maxRecDepth 20000 in
theorem gX7_tryWay_X7_mostIn : GoodIn wsX7_tryWay (wsV RX7 72 RX7 yX7_mostIn wsX7_mostIn) := goodIn_app (goodIn_of _ (by decide +kernel)) ggX7_tryWay_X7_mostIn
set_option maxRecDepth 20000 in
theorem ggX7_tryWay_X6_lay : GoodIn wsX7_tryWay wsX6_lay := goodIn_r _ [21, 22, 23, 24, 25, 26, 27, 28, 29, 30, 31, 32, 33, 34, 35, 36, 37, 38, 39, 40, 41, 42, 20, 43, 44, 45, 46, 47, 48, 49, 50, 51, 52, 53, 54, 55, 56, 57, 58, 59, 60, 61, 62, 63, 64, 65, 66, 67, 68, 69, 70, 71, 72, 73, 74, 75, 76, 77, 78, 79, 80, 81, 174, 175, 176, 177, 178, 158, 159, 160, 161, 162, 163, 164, 165, 166, 167, 168, 169, 170, 171, 172, 173] (by decide +kernel) (by decide +kernel)
set_option maxRecDepth 20000 in
theorem gX7_tryWay_X6_lay : GoodIn wsX7_tryWay (wsV RX7 80 RX6 yX6_lay wsX6_lay) := goodIn_app (goodIn_of _ (by decide +kernel)) ggX7_tryWay_X6_lay
set_option maxRecDepth 20000 in
theorem ggX7_tryWay_X8_firstBroken : GoodIn wsX7_tryWay wsX8_firstBroken := goodIn_r _ [86, 87, 88, 89, 90, 91, 31, 92, 93, 94, 95, 48, 96, 97, 98, 99, 85, 100, 101, 102, 103, 104, 105, 106, 107, 108, 109, 110, 111, 112, 113, 114, 115, 116, 117, 118, 119, 120, 121, 122, 123, 124, 125, 126, 127, 128, 129, 158, 159, 160, 161, 162, 163, 164, 165, 166, 167, 168, 169, 170, 171, 172, 173, 179, 180, 181, 182, 174, 175, 176, 177, 178, 183, 184, 185, 186, 187, 188] (by decide +kernel) (by decide +kernel)
set_option maxRecDepth 20000 in
theorem gX7_tryWay_X8_firstBroken : GoodIn wsX7_tryWay (wsV RX7 83 RX8 yX8_firstBroken wsX8_firstBroken) := goodIn_app (goodIn_of _ (by decide +kernel)) ggX7_tryWay_X8_firstBroken
set_option maxRecDepth 20000 in
theorem ggX7_tryWay_X7_keepIfLess : GoodIn wsX7_tryWay wsX7_keepIfLess := goodIn_r _ [133, 4, 2, 134, 135, 136, 3, 137, 138, 139, 140, 141, 142, 143, 144, 20, 145, 25, 146, 22, 27, 147, 148, 149, 150, 151, 152, 153, 154, 155, 156, 157, 158, 159, 160, 161, 162, 163, 164, 165, 166, 167, 168, 169, 170, 171, 172, 173, 174, 175, 176, 177, 178] (by decide +kernel) (by decide +kernel)
set_option maxRecDepth 20000 in
theorem gX7_tryWay_X7_keepIfLess : GoodIn wsX7_tryWay (wsV RX7 87 RX7 yX7_keepIfLess wsX7_keepIfLess) := goodIn_app (goodIn_of _ (by decide +kernel)) ggX7_tryWay_X7_keepIfLess
theorem dX7_tryWay_0 : decode cX7_tryWay 0 = .ok (.iload 4, 2) := by decide +kernel
theorem dX7_tryWay_2 : decode cX7_tryWay 2 = .ok (.aload_n 0, 1) := by decide +kernel
theorem dX7_tryWay_3 : decode cX7_tryWay 3 = .ok (.iconst 2, 1) := by decide +kernel
theorem dX7_tryWay_4 : decode cX7_tryWay 4 = .ok (.invokevirtual 68, 3) := by decide +kernel
theorem dX7_tryWay_7 : decode cX7_tryWay 7 = .ok (.if_icmp .lt 23, 3) := by decide +kernel
theorem dX7_tryWay_10 : decode cX7_tryWay 10 = .ok (.iload 4, 2) := by decide +kernel
theorem dX7_tryWay_12 : decode cX7_tryWay 12 = .ok (.aload_n 0, 1) := by decide +kernel
theorem dX7_tryWay_13 : decode cX7_tryWay 13 = .ok (.iconst 2, 1) := by decide +kernel
theorem dX7_tryWay_14 : decode cX7_tryWay 14 = .ok (.invokevirtual 72, 3) := by decide +kernel
theorem dX7_tryWay_17 : decode cX7_tryWay 17 = .ok (.if_icmp .gt 13, 3) := by decide +kernel
theorem dX7_tryWay_20 : decode cX7_tryWay 20 = .ok (.aload_n 0, 1) := by decide +kernel
theorem dX7_tryWay_21 : decode cX7_tryWay 21 = .ok (.getfield 47, 3) := by decide +kernel
theorem dX7_tryWay_24 : decode cX7_tryWay 24 = .ok (.sipush 2000, 3) := by decide +kernel
theorem dX7_tryWay_27 : decode cX7_tryWay 27 = .ok (.if_icmp .lt 4, 3) := by decide +kernel
theorem dX7_tryWay_30 : decode cX7_tryWay 30 = .ok (.return_, 1) := by decide +kernel
theorem dX7_tryWay_31 : decode cX7_tryWay 31 = .ok (.aload_n 0, 1) := by decide +kernel
theorem dX7_tryWay_32 : decode cX7_tryWay 32 = .ok (.getfield 12, 3) := by decide +kernel
theorem dX7_tryWay_35 : decode cX7_tryWay 35 = .ok (.getfield 79, 3) := by decide +kernel
theorem dX7_tryWay_38 : decode cX7_tryWay 38 = .ok (.iconst 0, 1) := by decide +kernel
theorem dX7_tryWay_39 : decode cX7_tryWay 39 = .ok (.iload_n 2, 1) := by decide +kernel
theorem dX7_tryWay_40 : decode cX7_tryWay 40 = .ok (.iastore, 1) := by decide +kernel
theorem dX7_tryWay_41 : decode cX7_tryWay 41 = .ok (.aload_n 0, 1) := by decide +kernel
theorem dX7_tryWay_42 : decode cX7_tryWay 42 = .ok (.getfield 12, 3) := by decide +kernel
theorem dX7_tryWay_45 : decode cX7_tryWay 45 = .ok (.getfield 79, 3) := by decide +kernel
theorem dX7_tryWay_48 : decode cX7_tryWay 48 = .ok (.iconst 1, 1) := by decide +kernel
theorem dX7_tryWay_49 : decode cX7_tryWay 49 = .ok (.iload_n 3, 1) := by decide +kernel
theorem dX7_tryWay_50 : decode cX7_tryWay 50 = .ok (.iastore, 1) := by decide +kernel
theorem dX7_tryWay_51 : decode cX7_tryWay 51 = .ok (.aload_n 0, 1) := by decide +kernel
theorem dX7_tryWay_52 : decode cX7_tryWay 52 = .ok (.getfield 12, 3) := by decide +kernel
theorem dX7_tryWay_55 : decode cX7_tryWay 55 = .ok (.getfield 79, 3) := by decide +kernel
theorem dX7_tryWay_58 : decode cX7_tryWay 58 = .ok (.iconst 2, 1) := by decide +kernel
theorem dX7_tryWay_59 : decode cX7_tryWay 59 = .ok (.iload 4, 2) := by decide +kernel
theorem dX7_tryWay_61 : decode cX7_tryWay 61 = .ok (.iastore, 1) := by decide +kernel
theorem dX7_tryWay_62 : decode cX7_tryWay 62 = .ok (.aload_n 0, 1) := by decide +kernel
theorem dX7_tryWay_63 : decode cX7_tryWay 63 = .ok (.getfield 21, 3) := by decide +kernel
theorem dX7_tryWay_66 : decode cX7_tryWay 66 = .ok (.aload_n 0, 1) := by decide +kernel
theorem dX7_tryWay_67 : decode cX7_tryWay 67 = .ok (.getfield 12, 3) := by decide +kernel
theorem dX7_tryWay_70 : decode cX7_tryWay 70 = .ok (.invokevirtual 80, 3) := by decide +kernel
theorem dX7_tryWay_73 : decode cX7_tryWay 73 = .ok (.aload_n 0, 1) := by decide +kernel
theorem dX7_tryWay_74 : decode cX7_tryWay 74 = .ok (.getfield 28, 3) := by decide +kernel
theorem dX7_tryWay_77 : decode cX7_tryWay 77 = .ok (.aload_n 0, 1) := by decide +kernel
theorem dX7_tryWay_78 : decode cX7_tryWay 78 = .ok (.getfield 12, 3) := by decide +kernel
theorem dX7_tryWay_81 : decode cX7_tryWay 81 = .ok (.aload_n 0, 1) := by decide +kernel
theorem dX7_tryWay_82 : decode cX7_tryWay 82 = .ok (.getfield 21, 3) := by decide +kernel
theorem dX7_tryWay_85 : decode cX7_tryWay 85 = .ok (.invokevirtual 83, 3) := by decide +kernel
theorem dX7_tryWay_88 : decode cX7_tryWay 88 = .ok (.istore 5, 2) := by decide +kernel
theorem dX7_tryWay_90 : decode cX7_tryWay 90 = .ok (.aload_n 0, 1) := by decide +kernel
theorem dX7_tryWay_91 : decode cX7_tryWay 91 = .ok (.getfield 47, 3) := by decide +kernel
theorem dX7_tryWay_94 : decode cX7_tryWay 94 = .ok (.sipush 200, 3) := by decide +kernel
theorem dX7_tryWay_97 : decode cX7_tryWay 97 = .ok (.if_icmp .ge 14, 3) := by decide +kernel
theorem dX7_tryWay_100 : decode cX7_tryWay 100 = .ok (.aload_n 0, 1) := by decide +kernel
theorem dX7_tryWay_101 : decode cX7_tryWay 101 = .ok (.getfield 32, 3) := by decide +kernel
theorem dX7_tryWay_104 : decode cX7_tryWay 104 = .ok (.aload_n 0, 1) := by decide +kernel
theorem dX7_tryWay_105 : decode cX7_tryWay 105 = .ok (.getfield 47, 3) := by decide +kernel
theorem dX7_tryWay_108 : decode cX7_tryWay 108 = .ok (.iload 5, 2) := by decide +kernel
theorem dX7_tryWay_110 : decode cX7_tryWay 110 = .ok (.iastore, 1) := by decide +kernel
theorem dX7_tryWay_111 : decode cX7_tryWay 111 = .ok (.aload_n 0, 1) := by decide +kernel
theorem dX7_tryWay_112 : decode cX7_tryWay 112 = .ok (.dup, 1) := by decide +kernel
theorem dX7_tryWay_113 : decode cX7_tryWay 113 = .ok (.getfield 47, 3) := by decide +kernel
theorem dX7_tryWay_116 : decode cX7_tryWay 116 = .ok (.iconst 1, 1) := by decide +kernel
theorem dX7_tryWay_117 : decode cX7_tryWay 117 = .ok (.iadd, 1) := by decide +kernel
theorem dX7_tryWay_118 : decode cX7_tryWay 118 = .ok (.putfield 47, 3) := by decide +kernel
theorem dX7_tryWay_121 : decode cX7_tryWay 121 = .ok (.iload 5, 2) := by decide +kernel
theorem dX7_tryWay_123 : decode cX7_tryWay 123 = .ok (.bipush (-2), 2) := by decide +kernel
theorem dX7_tryWay_125 : decode cX7_tryWay 125 = .ok (.if_icmp .ne 8, 3) := by decide +kernel
theorem dX7_tryWay_128 : decode cX7_tryWay 128 = .ok (.aload_n 0, 1) := by decide +kernel
theorem dX7_tryWay_129 : decode cX7_tryWay 129 = .ok (.iload_n 1, 1) := by decide +kernel
theorem dX7_tryWay_130 : decode cX7_tryWay 130 = .ok (.invokevirtual 87, 3) := by decide +kernel
theorem dX7_tryWay_133 : decode cX7_tryWay 133 = .ok (.return_, 1) := by decide +kernel
set_option maxHeartbeats 4000000 in
set_option maxRecDepth 100000 in
theorem k_X7_tryWay (l : Launch) (D : va_G) (cy : Nat → ClassId) {L : List Nat} {τ : Nat → Ro} {E : Ec} (hI : Inv TB cy L τ E) {a0 : Nat} (ha0 : a0 ∈ L) (ta0 : τ a0 = (8, 0)) (a1 : Int32) (a2 : Int32) (a3 : Int32) (a4 : Int32) : CtV l yX7_tryWay wsX7_tryWay { frames := 5, cells := 0, slots := 0, locals := 121 } D TB cy L τ E [.ref a0, .int a1, .int a2, .int a3, .int a4] (inW [(8, 0), (37, 0), (38, 0), (6, 1), (1, 2), (20, 2), (21, 2), (22, 2), (23, 2), (24, 2), (25, 2), (26, 2), (27, 2), (5, 1), (100, 1), (101, 1), (102, 1), (103, 1), (104, 1), (105, 1), (106, 1), (107, 1), (108, 1), (109, 1), (110, 1), (111, 1), (112, 1)]) (fun E' => True) := by
  intro sz
  refine sta (cc := cX7_tryWay) (maxL := 6) hI (by decide) rfl (Nat.le_of_ble_eq_true rfl) (fun p e s m args below meth c ls hsz Z S0 hl => ?_)
  have hx := Z.1.1
  have hb := Z.1.2.1
  have hts := Z.1.2.2.2.2
  have F0_ : Fr L τ (inW [(8, 0), (37, 0), (38, 0), (6, 1), (1, 2), (20, 2), (21, 2), (22, 2), (23, 2), (24, 2), (25, 2), (26, 2), (27, 2), (5, 1), (100, 1), (101, 1), (102, 1), (103, 1), (104, 1), (105, 1), (106, 1), (107, 1), (108, 1), (109, 1), (110, 1), (111, 1), (112, 1)]) E E := Fr.refl
  have hl : lv_has ls 6 [(0, .ref a0), (1, .int a1), (2, .int a2), (3, .int a3), (4, .int a4)] := hl
  generalize hQ : MQ below _ args s 0 0 _ = QQ
  have J111 : ∀ (x5_111 : Int32) (E_111 : Ec) (H_111 : Heap) (k_111 : List Loc) (l_111 : Array Slot), Now D TB cy (va_A (va_pl L E) sz) s L τ E_111 H_111 k_111 → Fr L τ (inW [(8, 0), (37, 0), (38, 0), (6, 1), (1, 2), (20, 2), (21, 2), (22, 2), (23, 2), (24, 2), (25, 2), (26, 2), (27, 2), (5, 1), (100, 1), (101, 1), (102, 1), (103, 1), (104, 1), (105, 1), (106, 1), (107, 1), (108, 1), (109, 1), (110, 1), (111, 1), (112, 1)]) E E_111 → (0 ≤ (fi E_111 a0 7).toInt ∧ (fi E_111 a0 7).toInt ≤ 1999) → lv_has l_111 6 [(0, .ref a0), (1, .int a1), (5, .int x5_111)] → W p l e { frames := 5, cells := 0, slots := 0, locals := 121 } s m args below meth c H_111 k_111 0 0 QQ (F0 m 111 l_111 []) := by
    intro x5_111 E_111 H_111 k_111 l_111 S_111 F_111 z1 hl_111
    refine lv_aload_n hx hb dX7_tryWay_111 rfl (lv_at hl_111 0 rfl) ?_
    refine lv_dup hx hb dX7_tryWay_112 rfl ?_
    refine tr_geti Z.1 Z.2.2.2.1 S_111.1 S_111.2 ha0 ta0 rfl rfl (fun _ h => List.mem_cons_of_mem _ (List.mem_append_left _ (List.mem_append_left _ (List.mem_append_left _ (List.mem_append_left _ (List.mem_append_right _ h)))))) 7 (by decide) rfl (hts _ (List.mem_of_getElem? (i := 1) rfl)) dX7_tryWay_113 (fun v2 ev2 lv2 uv2 => ?_)
    have wv2 : v2 = (fi E_111 a0 7) := ev2.symm.trans rfl
    have xv2 : v2.toInt = (fi E_111 a0 7).toInt := by rw [wv2]
    obtain ⟨v3, ev3, tv3⟩ : ∃ v : Int32, Int32.ofInt (1) = v ∧ v.toInt = 1 := ⟨_, rfl, by decide +kernel⟩
    refine lv_iconst hx hb dX7_tryWay_116 ev3 ?_
    refine lv_iadd hx hb dX7_tryWay_117 ?_
    refine lv_topi (fun v4 ev4 => ?_)
    have tv4 := nu_add ev4 (by omega) (by omega)
    refine tr_puti Z.1 Z.2.2.2.1 S_111.1 S_111.2 ha0 ta0 rfl rfl (fun _ h => List.mem_cons_of_mem _ (List.mem_append_left _ (List.mem_append_left _ (List.mem_append_left _ (List.mem_append_left _ (List.mem_append_right _ h)))))) tyX7_ok nmX7 7 (by decide) rfl rfl rfl (hts _ (List.mem_of_getElem? (i := 1) rfl)) dX7_tryWay_118 (by omega) (by omega) (fun E5 H6 k7 W5 I5 P5 => ?_)
    have S5 : Now D TB cy (va_A (va_pl L E) sz) s L τ E5 H6 k7 := ⟨W5, I5⟩
    have F5 : Fr L τ (inW [(8, 0), (37, 0), (38, 0), (6, 1), (1, 2), (20, 2), (21, 2), (22, 2), (23, 2), (24, 2), (25, 2), (26, 2), (27, 2), (5, 1), (100, 1), (101, 1), (102, 1), (103, 1), (104, 1), (105, 1), (106, 1), (107, 1), (108, 1), (109, 1), (110, 1), (111, 1), (112, 1)]) E E5 := Fr.put F_111 P5 ta0 rfl
    refine lv_iload hx hb dX7_tryWay_121 (lv_at hl_111 2 rfl) ?_
    obtain ⟨v8, ev8, tv8⟩ : ∃ v : Int32, (Int8.ofInt (-2)).toInt32 = v ∧ v.toInt = -2 := ⟨_, rfl, by decide +kernel⟩
    refine lv_bipush hx hb dX7_tryWay_123 ev8 ?_
    refine lv_icmp_ne (tgt := 133) hx hb dX7_tryWay_125 (by decide) (fun c9 => ?_) (fun c9 => ?_)
    · skip
      have tc9 := nu_ne c9
      rw [← hQ]
      exact en_v Z S5 F5 trivial dX7_tryWay_133
    · skip
      have tc9 := nu_eq c9
      refine lv_aload_n hx hb dX7_tryWay_128 rfl (lv_at hl_111 0 rfl) ?_
      refine lv_iload_n hx hb dX7_tryWay_129 rfl (lv_at hl_111 1 rfl) ?_
      refine tc_vv Z.1 Z.2.2.2.1 Z.2.2.2.2.1 Z.2.2.2.2.2 S5.1 S5.2 ha0 ta0 rfl rfl (k_X7_keepIfLess l D cy S5.2 ha0 ta0 a1) (cwV 1 hts gX7_tryWay_X7_keepIfLess rfl rfl rfl (by decide +kernel) ⟨Nat.le_of_ble_eq_true rfl, Nat.le_of_ble_eq_true rfl⟩) rfl hl_111.1 rfl (Nat.le_of_ble_eq_true rfl) dX7_tryWay_130 ⟨Nat.zero_le _, Nat.zero_le _⟩ (fun E10 H11 k12 W10 I10 G10 p10 => ?_)
      have S10 : Now D TB cy (va_A (va_pl L E) sz) s L τ E10 H11 k12 := ⟨W10, I10⟩
      have F10 : Fr L τ (inW [(8, 0), (37, 0), (38, 0), (6, 1), (1, 2), (20, 2), (21, 2), (22, 2), (23, 2), (24, 2), (25, 2), (26, 2), (27, 2), (5, 1), (100, 1), (101, 1), (102, 1), (103, 1), (104, 1), (105, 1), (106, 1), (107, 1), (108, 1), (109, 1), (110, 1), (111, 1), (112, 1)]) E E10 := F5.trans (G10.mono (inW_mono (by decide)))
      rw [← hQ]
      exact en_v Z S10 F10 trivial dX7_tryWay_133
  refine lv_iload hx hb dX7_tryWay_0 (lv_at hl 4 rfl) ?_
  refine lv_aload_n hx hb dX7_tryWay_2 rfl (lv_at hl 0 rfl) ?_
  obtain ⟨v14, ev14, tv14⟩ : ∃ v : Int32, Int32.ofInt (2) = v ∧ v.toInt = 2 := ⟨_, rfl, by decide +kernel⟩
  refine lv_iconst hx hb dX7_tryWay_3 ev14 ?_
  refine tc_vi Z.1 Z.2.2.2.1 Z.2.2.2.2.1 Z.2.2.2.2.2 S0.1 S0.2 ha0 ta0 rfl rfl (k_X7_fewestIn l D cy S0.2 ha0 ta0 v14) (cwV 1 hts gX7_tryWay_X7_fewestIn rfl rfl rfl (by decide +kernel) ⟨Nat.le_of_ble_eq_true rfl, Nat.le_of_ble_eq_true rfl⟩) rfl hl.1 rfl (Nat.le_of_ble_eq_true rfl) dX7_tryWay_4 ⟨Nat.zero_le _, Nat.zero_le _⟩ (fun v18 E15 H16 k17 W15 I15 G15 p15 => ?_)
  obtain ⟨q15, p15_0, p15_1⟩ := p15
  have q15 := q15.symm
  subst q15
  have S15 : Now D TB cy (va_A (va_pl L E) sz) s L τ E H16 k17 := ⟨W15, I15⟩
  refine lv_icmp_lt (tgt := 30) hx hb dX7_tryWay_7 (by decide) (fun c19 => ?_) (fun c19 => ?_)
  · skip
    have tc19 := nu_lt c19
    rw [← hQ]
    exact en_v Z S15 F0_ trivial dX7_tryWay_30
  · skip
    have tc19 := nu_nlt c19
    refine lv_iload hx hb dX7_tryWay_10 (lv_at hl 4 rfl) ?_
    refine lv_aload_n hx hb dX7_tryWay_12 rfl (lv_at hl 0 rfl) ?_
    obtain ⟨v20, ev20, tv20⟩ : ∃ v : Int32, Int32.ofInt (2) = v ∧ v.toInt = 2 := ⟨_, rfl, by decide +kernel⟩
    refine lv_iconst hx hb dX7_tryWay_13 ev20 ?_
    refine tc_vi Z.1 Z.2.2.2.1 Z.2.2.2.2.1 Z.2.2.2.2.2 S15.1 S15.2 ha0 ta0 rfl rfl (k_X7_mostIn l D cy S15.2 ha0 ta0 v20) (cwV 1 hts gX7_tryWay_X7_mostIn rfl rfl rfl (by decide +kernel) ⟨Nat.le_of_ble_eq_true rfl, Nat.le_of_ble_eq_true rfl⟩) rfl hl.1 rfl (Nat.le_of_ble_eq_true rfl) dX7_tryWay_14 ⟨Nat.zero_le _, Nat.zero_le _⟩ (fun v24 E21 H22 k23 W21 I21 G21 p21 => ?_)
    obtain ⟨q21, p21_0, p21_1⟩ := p21
    have q21 := q21.symm
    subst q21
    have S21 : Now D TB cy (va_A (va_pl L E) sz) s L τ E H22 k23 := ⟨W21, I21⟩
    refine lv_icmp_gt (tgt := 30) hx hb dX7_tryWay_17 (by decide) (fun c25 => ?_) (fun c25 => ?_)
    · skip
      have tc25 := nu_lt c25
      rw [← hQ]
      exact en_v Z S21 F0_ trivial dX7_tryWay_30
    · skip
      have tc25 := nu_nlt c25
      refine lv_aload_n hx hb dX7_tryWay_20 rfl (lv_at hl 0 rfl) ?_
      refine tr_geti Z.1 Z.2.2.2.1 S21.1 S21.2 ha0 ta0 rfl rfl (fun _ h => List.mem_cons_of_mem _ (List.mem_append_left _ (List.mem_append_left _ (List.mem_append_left _ (List.mem_append_left _ (List.mem_append_right _ h)))))) 7 (by decide) rfl (hts _ (List.mem_of_getElem? (i := 1) rfl)) dX7_tryWay_21 (fun v26 ev26 lv26 uv26 => ?_)
      obtain ⟨v27, ev27, tv27⟩ : ∃ v : Int32, (Int16.ofInt (2000)).toInt32 = v ∧ v.toInt = 2000 := ⟨_, rfl, by decide +kernel⟩
      refine lv_sipush hx hb dX7_tryWay_24 ev27 ?_
      refine lv_icmp_lt (tgt := 31) hx hb dX7_tryWay_27 (by decide) (fun c28 => ?_) (fun c28 => ?_)
      · skip
        have tc28 := nu_lt c28
        refine lv_aload_n hx hb dX7_tryWay_31 rfl (lv_at hl 0 rfl) ?_
        refine tr_getr Z.1 Z.2.2.2.1 S21.1 S21.2 ha0 ta0 rfl rfl (fun _ h => List.mem_cons_of_mem _ (List.mem_append_left _ (List.mem_append_left _ (List.mem_append_left _ (List.mem_append_left _ (List.mem_append_right _ h)))))) 0 (by decide) rfl (hts _ (List.mem_of_getElem? (i := 2) rfl)) dX7_tryWay_32 (fun q29 eq29 hq29 tq29 => ?_)
        have tq29 : τ q29 = (1, 2) := tq29
        refine tr_getr Z.1 Z.2.2.2.1 S21.1 S21.2 hq29 tq29 rfl rfl (fun _ h => List.mem_cons_of_mem _ (List.mem_append_left _ (List.mem_append_left _ (List.mem_append_left _ (List.mem_append_right _ h))))) 8 (by decide) rfl (hts _ (List.mem_of_getElem? (i := 3) rfl)) dX7_tryWay_35 (fun q30 eq30 hq30 tq30 => ?_)
        have tq30 : τ q30 = (20, 2) := tq30
        obtain ⟨v31, ev31, tv31⟩ : ∃ v : Int32, Int32.ofInt (0) = v ∧ v.toInt = 0 := ⟨_, rfl, by decide +kernel⟩
        refine lv_iconst hx hb dX7_tryWay_38 ev31 ?_
        refine lv_iload_n hx hb dX7_tryWay_39 rfl (lv_at hl 2 rfl) ?_
        refine tr_iast Z.1 Z.2.2.2.1 S21.1 S21.2 hq30 tq30 rfl (by omega) (by omega) (by have := fb_rng a2; omega) (by have := fb_rng a2; omega) dX7_tryWay_40 (fun E32 H33 k34 W32 I32 P32 => ?_)
        have S32 : Now D TB cy (va_A (va_pl L E) sz) s L τ E32 H33 k34 := ⟨W32, I32⟩
        have F32 : Fr L τ (inW [(8, 0), (37, 0), (38, 0), (6, 1), (1, 2), (20, 2), (21, 2), (22, 2), (23, 2), (24, 2), (25, 2), (26, 2), (27, 2), (5, 1), (100, 1), (101, 1), (102, 1), (103, 1), (104, 1), (105, 1), (106, 1), (107, 1), (108, 1), (109, 1), (110, 1), (111, 1), (112, 1)]) E E32 := Fr.set F0_ P32 tq30 rfl
        refine lv_aload_n hx hb dX7_tryWay_41 rfl (lv_at hl 0 rfl) ?_
        refine tr_getr Z.1 Z.2.2.2.1 S32.1 S32.2 ha0 ta0 rfl rfl (fun _ h => List.mem_cons_of_mem _ (List.mem_append_left _ (List.mem_append_left _ (List.mem_append_left _ (List.mem_append_left _ (List.mem_append_right _ h)))))) 0 (by decide) rfl (hts _ (List.mem_of_getElem? (i := 2) rfl)) dX7_tryWay_42 (fun q35 eq35 hq35 tq35 => ?_)
        have tq35 : τ q35 = (1, 2) := tq35
        have uq35 : q29 = q35 := S32.2.2.2.2 _ hq29 _ hq35 (tq29.trans tq35.symm) (by rw [tq29]; rfl)
        subst uq35
        refine tr_getr Z.1 Z.2.2.2.1 S32.1 S32.2 hq29 tq29 rfl rfl (fun _ h => List.mem_cons_of_mem _ (List.mem_append_left _ (List.mem_append_left _ (List.mem_append_left _ (List.mem_append_right _ h))))) 8 (by decide) rfl (hts _ (List.mem_of_getElem? (i := 3) rfl)) dX7_tryWay_45 (fun q36 eq36 hq36 tq36 => ?_)
        have tq36 : τ q36 = (20, 2) := tq36
        have uq36 : q30 = q36 := S32.2.2.2.2 _ hq30 _ hq36 (tq30.trans tq36.symm) (by rw [tq30]; rfl)
        subst uq36
        obtain ⟨v37, ev37, tv37⟩ : ∃ v : Int32, Int32.ofInt (1) = v ∧ v.toInt = 1 := ⟨_, rfl, by decide +kernel⟩
        refine lv_iconst hx hb dX7_tryWay_48 ev37 ?_
        refine lv_iload_n hx hb dX7_tryWay_49 rfl (lv_at hl 3 rfl) ?_
        refine tr_iast Z.1 Z.2.2.2.1 S32.1 S32.2 hq30 tq30 rfl (by omega) (by omega) (by have := fb_rng a3; omega) (by have := fb_rng a3; omega) dX7_tryWay_50 (fun E38 H39 k40 W38 I38 P38 => ?_)
        have S38 : Now D TB cy (va_A (va_pl L E) sz) s L τ E38 H39 k40 := ⟨W38, I38⟩
        have F38 : Fr L τ (inW [(8, 0), (37, 0), (38, 0), (6, 1), (1, 2), (20, 2), (21, 2), (22, 2), (23, 2), (24, 2), (25, 2), (26, 2), (27, 2), (5, 1), (100, 1), (101, 1), (102, 1), (103, 1), (104, 1), (105, 1), (106, 1), (107, 1), (108, 1), (109, 1), (110, 1), (111, 1), (112, 1)]) E E38 := Fr.set F32 P38 tq30 rfl
        refine lv_aload_n hx hb dX7_tryWay_51 rfl (lv_at hl 0 rfl) ?_
        refine tr_getr Z.1 Z.2.2.2.1 S38.1 S38.2 ha0 ta0 rfl rfl (fun _ h => List.mem_cons_of_mem _ (List.mem_append_left _ (List.mem_append_left _ (List.mem_append_left _ (List.mem_append_left _ (List.mem_append_right _ h)))))) 0 (by decide) rfl (hts _ (List.mem_of_getElem? (i := 2) rfl)) dX7_tryWay_52 (fun q41 eq41 hq41 tq41 => ?_)
        have tq41 : τ q41 = (1, 2) := tq41
        have uq41 : q29 = q41 := S38.2.2.2.2 _ hq29 _ hq41 (tq29.trans tq41.symm) (by rw [tq29]; rfl)
        subst uq41
        refine tr_getr Z.1 Z.2.2.2.1 S38.1 S38.2 hq29 tq29 rfl rfl (fun _ h => List.mem_cons_of_mem _ (List.mem_append_left _ (List.mem_append_left _ (List.mem_append_left _ (List.mem_append_right _ h))))) 8 (by decide) rfl (hts _ (List.mem_of_getElem? (i := 3) rfl)) dX7_tryWay_55 (fun q42 eq42 hq42 tq42 => ?_)
        have tq42 : τ q42 = (20, 2) := tq42
        have uq42 : q30 = q42 := S38.2.2.2.2 _ hq30 _ hq42 (tq30.trans tq42.symm) (by rw [tq30]; rfl)
        subst uq42
        obtain ⟨v43, ev43, tv43⟩ : ∃ v : Int32, Int32.ofInt (2) = v ∧ v.toInt = 2 := ⟨_, rfl, by decide +kernel⟩
        refine lv_iconst hx hb dX7_tryWay_58 ev43 ?_
        refine lv_iload hx hb dX7_tryWay_59 (lv_at hl 4 rfl) ?_
        refine tr_iast Z.1 Z.2.2.2.1 S38.1 S38.2 hq30 tq30 rfl (by omega) (by omega) (by have := fb_rng a4; omega) (by have := fb_rng a4; omega) dX7_tryWay_61 (fun E44 H45 k46 W44 I44 P44 => ?_)
        have S44 : Now D TB cy (va_A (va_pl L E) sz) s L τ E44 H45 k46 := ⟨W44, I44⟩
        have F44 : Fr L τ (inW [(8, 0), (37, 0), (38, 0), (6, 1), (1, 2), (20, 2), (21, 2), (22, 2), (23, 2), (24, 2), (25, 2), (26, 2), (27, 2), (5, 1), (100, 1), (101, 1), (102, 1), (103, 1), (104, 1), (105, 1), (106, 1), (107, 1), (108, 1), (109, 1), (110, 1), (111, 1), (112, 1)]) E E44 := Fr.set F38 P44 tq30 rfl
        refine lv_aload_n hx hb dX7_tryWay_62 rfl (lv_at hl 0 rfl) ?_
        refine tr_getr Z.1 Z.2.2.2.1 S44.1 S44.2 ha0 ta0 rfl rfl (fun _ h => List.mem_cons_of_mem _ (List.mem_append_left _ (List.mem_append_left _ (List.mem_append_left _ (List.mem_append_left _ (List.mem_append_right _ h)))))) 1 (by decide) rfl (hts _ (List.mem_of_getElem? (i := 4) rfl)) dX7_tryWay_63 (fun q47 eq47 hq47 tq47 => ?_)
        have tq47 : τ q47 = (5, 1) := tq47
        refine lv_aload_n hx hb dX7_tryWay_66 rfl (lv_at hl 0 rfl) ?_
        refine tr_getr Z.1 Z.2.2.2.1 S44.1 S44.2 ha0 ta0 rfl rfl (fun _ h => List.mem_cons_of_mem _ (List.mem_append_left _ (List.mem_append_left _ (List.mem_append_left _ (List.mem_append_left _ (List.mem_append_right _ h)))))) 0 (by decide) rfl (hts _ (List.mem_of_getElem? (i := 2) rfl)) dX7_tryWay_67 (fun q48 eq48 hq48 tq48 => ?_)
        have tq48 : τ q48 = (1, 2) := tq48
        have uq48 : q29 = q48 := S44.2.2.2.2 _ hq29 _ hq48 (tq29.trans tq48.symm) (by rw [tq29]; rfl)
        subst uq48
        refine tc_vv Z.1 Z.2.2.2.1 Z.2.2.2.2.1 Z.2.2.2.2.2 S44.1 S44.2 hq47 tq47 rfl rfl (k_X6_lay_v1 l D cy S44.2 hq47 tq47 hq29 tq29) (cwV 1 hts gX7_tryWay_X6_lay rfl rfl rfl (by decide +kernel) ⟨Nat.le_of_ble_eq_true rfl, Nat.le_of_ble_eq_true rfl⟩) rfl hl.1 rfl (Nat.le_of_ble_eq_true rfl) dX7_tryWay_70 ⟨Nat.zero_le _, Nat.zero_le _⟩ (fun E49 H50 k51 W49 I49 G49 p49 => ?_)
        have S49 : Now D TB cy (va_A (va_pl L E) sz) s L τ E49 H50 k51 := ⟨W49, I49⟩
        have F49 : Fr L τ (inW [(8, 0), (37, 0), (38, 0), (6, 1), (1, 2), (20, 2), (21, 2), (22, 2), (23, 2), (24, 2), (25, 2), (26, 2), (27, 2), (5, 1), (100, 1), (101, 1), (102, 1), (103, 1), (104, 1), (105, 1), (106, 1), (107, 1), (108, 1), (109, 1), (110, 1), (111, 1), (112, 1)]) E E49 := F44.trans (G49.mono (inW_mono (by decide)))
        refine lv_aload_n hx hb dX7_tryWay_73 rfl (lv_at hl 0 rfl) ?_
        refine tr_getr Z.1 Z.2.2.2.1 S49.1 S49.2 ha0 ta0 rfl rfl (fun _ h => List.mem_cons_of_mem _ (List.mem_append_left _ (List.mem_append_left _ (List.mem_append_left _ (List.mem_append_left _ (List.mem_append_right _ h)))))) 2 (by decide) rfl (hts _ (List.mem_of_getElem? (i := 5) rfl)) dX7_tryWay_74 (fun q53 eq53 hq53 tq53 => ?_)
        have tq53 : τ q53 = (6, 1) := tq53
        refine lv_aload_n hx hb dX7_tryWay_77 rfl (lv_at hl 0 rfl) ?_
        refine tr_getr Z.1 Z.2.2.2.1 S49.1 S49.2 ha0 ta0 rfl rfl (fun _ h => List.mem_cons_of_mem _ (List.mem_append_left _ (List.mem_append_left _ (List.mem_append_left _ (List.mem_append_left _ (List.mem_append_right _ h)))))) 0 (by decide) rfl (hts _ (List.mem_of_getElem? (i := 2) rfl)) dX7_tryWay_78 (fun q54 eq54 hq54 tq54 => ?_)
        have tq54 : τ q54 = (1, 2) := tq54
        have uq54 : q29 = q54 := S49.2.2.2.2 _ hq29 _ hq54 (tq29.trans tq54.symm) (by rw [tq29]; rfl)
        subst uq54
        refine lv_aload_n hx hb dX7_tryWay_81 rfl (lv_at hl 0 rfl) ?_
        refine tr_getr Z.1 Z.2.2.2.1 S49.1 S49.2 ha0 ta0 rfl rfl (fun _ h => List.mem_cons_of_mem _ (List.mem_append_left _ (List.mem_append_left _ (List.mem_append_left _ (List.mem_append_left _ (List.mem_append_right _ h)))))) 1 (by decide) rfl (hts _ (List.mem_of_getElem? (i := 4) rfl)) dX7_tryWay_82 (fun q55 eq55 hq55 tq55 => ?_)
        have tq55 : τ q55 = (5, 1) := tq55
        have uq55 : q47 = q55 := S49.2.2.2.2 _ hq47 _ hq55 (tq47.trans tq55.symm) (by rw [tq47]; rfl)
        subst uq55
        refine tc_vi Z.1 Z.2.2.2.1 Z.2.2.2.2.1 Z.2.2.2.2.2 S49.1 S49.2 hq53 tq53 rfl rfl (k_X8_firstBroken_v1 l D cy S49.2 hq53 tq53 hq29 tq29 hq47 tq47) (cwV 2 hts gX7_tryWay_X8_firstBroken rfl rfl rfl (by decide +kernel) ⟨Nat.le_of_ble_eq_true rfl, Nat.le_of_ble_eq_true rfl⟩) rfl hl.1 rfl (Nat.le_of_ble_eq_true rfl) dX7_tryWay_85 ⟨Nat.zero_le _, Nat.zero_le _⟩ (fun v59 E56 H57 k58 W56 I56 G56 p56 => ?_)
        have S56 : Now D TB cy (va_A (va_pl L E) sz) s L τ E56 H57 k58 := ⟨W56, I56⟩
        have F56 : Fr L τ (inW [(8, 0), (37, 0), (38, 0), (6, 1), (1, 2), (20, 2), (21, 2), (22, 2), (23, 2), (24, 2), (25, 2), (26, 2), (27, 2), (5, 1), (100, 1), (101, 1), (102, 1), (103, 1), (104, 1), (105, 1), (106, 1), (107, 1), (108, 1), (109, 1), (110, 1), (111, 1), (112, 1)]) E E56 := F49.trans (G56.mono (inW_mono (by decide)))
        refine lv_istore (lv' := [(5, .int v59), (0, .ref a0), (1, .int a1), (2, .int a2), (3, .int a3), (4, .int a4)]) hx hb dX7_tryWay_88 hl (by decide) rfl (fun l60 hl61 => ?_)
        refine lv_aload_n hx hb dX7_tryWay_90 rfl (lv_at hl61 1 rfl) ?_
        refine tr_geti Z.1 Z.2.2.2.1 S56.1 S56.2 ha0 ta0 rfl rfl (fun _ h => List.mem_cons_of_mem _ (List.mem_append_left _ (List.mem_append_left _ (List.mem_append_left _ (List.mem_append_left _ (List.mem_append_right _ h)))))) 7 (by decide) rfl (hts _ (List.mem_of_getElem? (i := 1) rfl)) dX7_tryWay_91 (fun v62 ev62 lv62 uv62 => ?_)
        have wv62 : v62 = v26 := ev62.symm.trans ((fi_fr G56 ha0 (by rw [ta0]; rfl)).trans ((fi_fr G49 ha0 (by rw [ta0]; rfl)).trans ((fi_set P44 (ne_ro ta0 tq30 (by decide))).trans ((fi_set P38 (ne_ro ta0 tq30 (by decide))).trans ((fi_set P32 (ne_ro ta0 tq30 (by decide))).trans ev26)))))
        have xv62 : v62.toInt = v26.toInt := by rw [wv62]
        obtain ⟨v63, ev63, tv63⟩ : ∃ v : Int32, (Int16.ofInt (200)).toInt32 = v ∧ v.toInt = 200 := ⟨_, rfl, by decide +kernel⟩
        refine lv_sipush hx hb dX7_tryWay_94 ev63 ?_
        refine lv_icmp_ge (tgt := 111) hx hb dX7_tryWay_97 (by decide) (fun c64 => ?_) (fun c64 => ?_)
        · skip
          have tc64 := nu_le c64
          exact J111 v59 E56 H57 k58 l60 S56 F56 (by rw [ev62]; omega) (lv_sub hl61 [1, 2, 0] rfl)
        · skip
          have tc64 := nu_nle c64
          refine lv_aload_n hx hb dX7_tryWay_100 rfl (lv_at hl61 1 rfl) ?_
          refine tr_getr Z.1 Z.2.2.2.1 S56.1 S56.2 ha0 ta0 rfl rfl (fun _ h => List.mem_cons_of_mem _ (List.mem_append_left _ (List.mem_append_left _ (List.mem_append_left _ (List.mem_append_left _ (List.mem_append_right _ h)))))) 3 (by decide) rfl (hts _ (List.mem_of_getElem? (i := 6) rfl)) dX7_tryWay_101 (fun q65 eq65 hq65 tq65 => ?_)
          have tq65 : τ q65 = (37, 0) := tq65
          refine lv_aload_n hx hb dX7_tryWay_104 rfl (lv_at hl61 1 rfl) ?_
          refine tr_geti Z.1 Z.2.2.2.1 S56.1 S56.2 ha0 ta0 rfl rfl (fun _ h => List.mem_cons_of_mem _ (List.mem_append_left _ (List.mem_append_left _ (List.mem_append_left _ (List.mem_append_left _ (List.mem_append_right _ h)))))) 7 (by decide) rfl (hts _ (List.mem_of_getElem? (i := 1) rfl)) dX7_tryWay_105 (fun v66 ev66 lv66 uv66 => ?_)
          have wv66 : v66 = v62 := ev66.symm.trans ev62
          have xv66 : v66.toInt = v62.toInt := by rw [wv66]
          refine lv_iload hx hb dX7_tryWay_108 (lv_at hl61 0 rfl) ?_
          refine tr_iast Z.1 Z.2.2.2.1 S56.1 S56.2 hq65 tq65 rfl (by omega) (by omega) (by have := fb_rng v59; omega) (by have := fb_rng v59; omega) dX7_tryWay_110 (fun E67 H68 k69 W67 I67 P67 => ?_)
          have S67 : Now D TB cy (va_A (va_pl L E) sz) s L τ E67 H68 k69 := ⟨W67, I67⟩
          have F67 : Fr L τ (inW [(8, 0), (37, 0), (38, 0), (6, 1), (1, 2), (20, 2), (21, 2), (22, 2), (23, 2), (24, 2), (25, 2), (26, 2), (27, 2), (5, 1), (100, 1), (101, 1), (102, 1), (103, 1), (104, 1), (105, 1), (106, 1), (107, 1), (108, 1), (109, 1), (110, 1), (111, 1), (112, 1)]) E E67 := Fr.set F56 P67 tq65 rfl
          exact J111 v59 E67 H68 k69 l60 S67 F67 (by rw [((fi_set P67 (ne_ro ta0 tq65 (by decide))).trans ev66)]; omega) (lv_sub hl61 [1, 2, 0] rfl)
      · skip
        have tc28 := nu_nlt c28
        rw [← hQ]
        exact en_v Z S21 F0_ trivial dX7_tryWay_30

set_option maxRecDepth 20000 in
theorem ggX7_seek_X4_copy : GoodIn wsX7_seek wsX4_copy := goodIn_r _ [11, 12, 13, 14, 15, 16, 17, 18, 19, 20, 21, 22, 23, 24, 25, 26, 27, 28, 29, 30, 31, 181, 182, 183, 184, 185, 186, 187, 188, 189, 190, 191, 192, 193, 194, 195, 196] (by decide +kernel) (by decide +kernel)
set_option maxRecDepth 20000 in
theorem gX7_seek_X4_copy : GoodIn wsX7_seek (wsV RX7 59 RX4 yX4_copy wsX4_copy) := goodIn_app (goodIn_of _ (by decide +kernel)) ggX7_seek_X4_copy
set_option maxRecDepth 20000 in
theorem ggX7_seek_X4_turnTreads : GoodIn wsX7_seek wsX4_turnTreads := goodIn_r _ [35, 16, 26, 181, 182, 183, 184, 185, 186, 187, 188, 189, 190, 191, 192, 193, 194, 195, 196] (by decide +kernel) (by decide +kernel)
set_option maxRecDepth 20000 in
theorem gX7_seek_X4_turnTreads : GoodIn wsX7_seek (wsV RX7 64 RX4 yX4_turnTreads wsX4_turnTreads) := goodIn_app (goodIn_of _ (by decide +kernel)) ggX7_seek_X4_turnTreads
set_option maxRecDepth 20000 in
theorem ggX7_seek_X7_fewestIn : GoodIn wsX7_seek wsX7_fewestIn := goodIn_r _ [40, 4, 170, 171, 172, 173, 174, 175, 176, 177, 178, 179, 180] (by decide +kernel) (by decide +kernel)
set_option maxRecDepth 20000 in
theorem gX7_seek_X7_fewestIn : GoodIn wsX7_seek (wsV RX7 68 RX7 yX7_fewestIn wsX7_fewestIn) := goodIn_app (goodIn_of _ (by decide +kernel)) ggX7_seek_X7_fewestIn
set_option maxRecDepth 20000 in
theorem ggX7_seek_X7_mostIn : GoodIn wsX7_seek wsX7_mostIn := goodIn_r _ [44, 4, 170, 171, 172, 173, 174, 175, 176, 177, 178, 179, 180] (by decide +kernel) (by decide +kernel)
set_option maxRecDepth 20000 in
theorem gX7_seek_X7_mostIn : GoodIn wsX7_seek (wsV RX7 72 RX7 yX7_mostIn wsX7_mostIn) := goodIn_app (goodIn_of _ (by decide +kernel)) ggX7_seek_X7_mostIn
set_option maxRecDepth 20000 in
theorem ggX7_seek_X7_tryWay : GoodIn wsX7_seek wsX7_tryWay := goodIn_r _ [48, 5, 1, 49, 50, 51, 52, 36, 37, 38, 39, 40, 4, 41, 42, 43, 44, 53, 54, 55, 56, 57, 58, 59, 60, 61, 62, 63, 64, 65, 66, 10, 67, 16, 20, 68, 33, 34, 35, 26, 69, 70, 71, 72, 73, 74, 75, 76, 77, 78, 79, 80, 81, 82, 83, 84, 85, 86, 87, 88, 89, 90, 91, 92, 93, 94, 95, 96, 97, 98, 99, 100, 101, 102, 103, 104, 105, 106, 107, 108, 109, 110, 111, 112, 113, 114, 115, 116, 117, 118, 119, 120, 121, 19, 31, 122, 123, 124, 125, 126, 127, 128, 129, 130, 131, 132, 133, 134, 135, 136, 137, 138, 139, 140, 141, 142, 143, 144, 145, 146, 147, 148, 149, 150, 151, 152, 153, 154, 155, 156, 157, 158, 159, 160, 6, 161, 162, 163, 164, 22, 23, 24, 165, 166, 167, 168, 169, 170, 171, 172, 173, 174, 175, 176, 177, 178, 179, 180, 181, 182, 183, 184, 185, 186, 187, 188, 189, 190, 191, 192, 193, 194, 195, 196, 197, 198, 199, 200, 201, 202, 203, 204, 205, 206, 207, 208, 209, 210, 211] (by decide +kernel) (by decide +kernel)
set_option maxRecDepth 20000 in
theorem gX7_seek_X7_tryWay : GoodIn wsX7_seek (wsV RX7 75 RX7 yX7_tryWay wsX7_tryWay) := goodIn_app (goodIn_of _ (by decide +kernel)) ggX7_seek_X7_tryWay
theorem dX7_seek_0 : decode cX7_seek 0 = .ok (.aload_n 0, 1) := by decide +kernel
theorem dX7_seek_1 : decode cX7_seek 1 = .ok (.getfield 12, 3) := by decide +kernel
theorem dX7_seek_4 : decode cX7_seek 4 = .ok (.aload_n 1, 1) := by decide +kernel
theorem dX7_seek_5 : decode cX7_seek 5 = .ok (.invokevirtual 59, 3) := by decide +kernel
theorem dX7_seek_8 : decode cX7_seek 8 = .ok (.aload_n 0, 1) := by decide +kernel
theorem dX7_seek_9 : decode cX7_seek 9 = .ok (.iconst 1, 1) := by decide +kernel
theorem dX7_seek_10 : decode cX7_seek 10 = .ok (.putfield 39, 3) := by decide +kernel
theorem dX7_seek_13 : decode cX7_seek 13 = .ok (.aload_n 0, 1) := by decide +kernel
theorem dX7_seek_14 : decode cX7_seek 14 = .ok (.aload_n 1, 1) := by decide +kernel
theorem dX7_seek_15 : decode cX7_seek 15 = .ok (.getfield 63, 3) := by decide +kernel
theorem dX7_seek_18 : decode cX7_seek 18 = .ok (.putfield 43, 3) := by decide +kernel
theorem dX7_seek_21 : decode cX7_seek 21 = .ok (.aload_n 0, 1) := by decide +kernel
theorem dX7_seek_22 : decode cX7_seek 22 = .ok (.iconst 0, 1) := by decide +kernel
theorem dX7_seek_23 : decode cX7_seek 23 = .ok (.putfield 47, 3) := by decide +kernel
theorem dX7_seek_26 : decode cX7_seek 26 = .ok (.aload_n 0, 1) := by decide +kernel
theorem dX7_seek_27 : decode cX7_seek 27 = .ok (.iconst 0, 1) := by decide +kernel
theorem dX7_seek_28 : decode cX7_seek 28 = .ok (.putfield 50, 3) := by decide +kernel
theorem dX7_seek_31 : decode cX7_seek 31 = .ok (.aload_n 1, 1) := by decide +kernel
theorem dX7_seek_32 : decode cX7_seek 32 = .ok (.invokevirtual 64, 3) := by decide +kernel
theorem dX7_seek_35 : decode cX7_seek 35 = .ok (.istore 4, 2) := by decide +kernel
theorem dX7_seek_37 : decode cX7_seek 37 = .ok (.iload_n 2, 1) := by decide +kernel
theorem dX7_seek_38 : decode cX7_seek 38 = .ok (.istore 5, 2) := by decide +kernel
theorem dX7_seek_40 : decode cX7_seek 40 = .ok (.iload 5, 2) := by decide +kernel
theorem dX7_seek_42 : decode cX7_seek 42 = .ok (.iload_n 3, 1) := by decide +kernel
theorem dX7_seek_43 : decode cX7_seek 43 = .ok (.if_icmp .gt 85, 3) := by decide +kernel
theorem dX7_seek_46 : decode cX7_seek 46 = .ok (.aload_n 0, 1) := by decide +kernel
theorem dX7_seek_47 : decode cX7_seek 47 = .ok (.getfield 47, 3) := by decide +kernel
theorem dX7_seek_50 : decode cX7_seek 50 = .ok (.sipush 2000, 3) := by decide +kernel
theorem dX7_seek_53 : decode cX7_seek 53 = .ok (.if_icmp .ge 75, 3) := by decide +kernel
theorem dX7_seek_56 : decode cX7_seek 56 = .ok (.iload 5, 2) := by decide +kernel
theorem dX7_seek_58 : decode cX7_seek 58 = .ok (.iconst 1, 1) := by decide +kernel
theorem dX7_seek_59 : decode cX7_seek 59 = .ok (.isub, 1) := by decide +kernel
theorem dX7_seek_60 : decode cX7_seek 60 = .ok (.iload 4, 2) := by decide +kernel
theorem dX7_seek_62 : decode cX7_seek 62 = .ok (.isub, 1) := by decide +kernel
theorem dX7_seek_63 : decode cX7_seek 63 = .ok (.istore 6, 2) := by decide +kernel
theorem dX7_seek_65 : decode cX7_seek 65 = .ok (.iconst 1, 1) := by decide +kernel
theorem dX7_seek_66 : decode cX7_seek 66 = .ok (.istore 7, 2) := by decide +kernel
theorem dX7_seek_68 : decode cX7_seek 68 = .ok (.iload 7, 2) := by decide +kernel
theorem dX7_seek_70 : decode cX7_seek 70 = .ok (.bipush 20, 2) := by decide +kernel
theorem dX7_seek_72 : decode cX7_seek 72 = .ok (.if_icmp .gt 50, 3) := by decide +kernel
theorem dX7_seek_75 : decode cX7_seek 75 = .ok (.aload_n 0, 1) := by decide +kernel
theorem dX7_seek_76 : decode cX7_seek 76 = .ok (.iconst 1, 1) := by decide +kernel
theorem dX7_seek_77 : decode cX7_seek 77 = .ok (.invokevirtual 68, 3) := by decide +kernel
theorem dX7_seek_80 : decode cX7_seek 80 = .ok (.istore 8, 2) := by decide +kernel
theorem dX7_seek_82 : decode cX7_seek 82 = .ok (.iload 8, 2) := by decide +kernel
theorem dX7_seek_84 : decode cX7_seek 84 = .ok (.aload_n 0, 1) := by decide +kernel
theorem dX7_seek_85 : decode cX7_seek 85 = .ok (.iconst 1, 1) := by decide +kernel
theorem dX7_seek_86 : decode cX7_seek 86 = .ok (.invokevirtual 72, 3) := by decide +kernel
theorem dX7_seek_89 : decode cX7_seek 89 = .ok (.if_icmp .gt 27, 3) := by decide +kernel
theorem dX7_seek_92 : decode cX7_seek 92 = .ok (.aload_n 0, 1) := by decide +kernel
theorem dX7_seek_93 : decode cX7_seek 93 = .ok (.iload 5, 2) := by decide +kernel
theorem dX7_seek_95 : decode cX7_seek 95 = .ok (.iload 7, 2) := by decide +kernel
theorem dX7_seek_97 : decode cX7_seek 97 = .ok (.iload 8, 2) := by decide +kernel
theorem dX7_seek_99 : decode cX7_seek 99 = .ok (.iload 6, 2) := by decide +kernel
theorem dX7_seek_101 : decode cX7_seek 101 = .ok (.iload 7, 2) := by decide +kernel
theorem dX7_seek_103 : decode cX7_seek 103 = .ok (.isub, 1) := by decide +kernel
theorem dX7_seek_104 : decode cX7_seek 104 = .ok (.iload 8, 2) := by decide +kernel
theorem dX7_seek_106 : decode cX7_seek 106 = .ok (.isub, 1) := by decide +kernel
theorem dX7_seek_107 : decode cX7_seek 107 = .ok (.invokevirtual 75, 3) := by decide +kernel
theorem dX7_seek_110 : decode cX7_seek 110 = .ok (.iinc 8 1, 3) := by decide +kernel
theorem dX7_seek_113 : decode cX7_seek 113 = .ok (.goto (-31), 3) := by decide +kernel
theorem dX7_seek_116 : decode cX7_seek 116 = .ok (.iinc 7 1, 3) := by decide +kernel
theorem dX7_seek_119 : decode cX7_seek 119 = .ok (.goto (-51), 3) := by decide +kernel
theorem dX7_seek_122 : decode cX7_seek 122 = .ok (.iinc 5 1, 3) := by decide +kernel
theorem dX7_seek_125 : decode cX7_seek 125 = .ok (.goto (-85), 3) := by decide +kernel
theorem dX7_seek_128 : decode cX7_seek 128 = .ok (.return_, 1) := by decide +kernel
set_option maxHeartbeats 4000000 in
set_option maxRecDepth 100000 in
theorem k_X7_seek (l : Launch) (D : va_G) (cy : Nat → ClassId) {L : List Nat} {τ : Nat → Ro} {E : Ec} (hI : Inv TB cy L τ E) {a0 : Nat} (ha0 : a0 ∈ L) (ta0 : τ a0 = (8, 0)) {a1 : Nat} (ha1 : a1 ∈ L) (ta1 : τ a1 = (1, 0)) (a2 : Int32) (la2 : 2 ≤ a2.toInt) (ua2 : a2.toInt ≤ 67) (a3 : Int32) (la3 : 2 ≤ a3.toInt) (ua3 : a3.toInt ≤ 67) : CtV l yX7_seek wsX7_seek { frames := 6, cells := 0, slots := 0, locals := 146 } D TB cy L τ E [.ref a0, .ref a1, .int a2, .int a3] (inW [(8, 0), (37, 0), (38, 0), (6, 1), (1, 2), (20, 2), (21, 2), (22, 2), (23, 2), (24, 2), (25, 2), (26, 2), (27, 2), (5, 1), (100, 1), (101, 1), (102, 1), (103, 1), (104, 1), (105, 1), (106, 1), (107, 1), (108, 1), (109, 1), (110, 1), (111, 1), (112, 1)]) (fun E' => True) := by
  intro sz
  refine sta (cc := cX7_seek) (maxL := 9) hI (by decide) rfl (Nat.le_of_ble_eq_true rfl) (fun p e s m args below meth c ls hsz Z S0 hl => ?_)
  have hx := Z.1.1
  have hb := Z.1.2.1
  have hts := Z.1.2.2.2.2
  have F0_ : Fr L τ (inW [(8, 0), (37, 0), (38, 0), (6, 1), (1, 2), (20, 2), (21, 2), (22, 2), (23, 2), (24, 2), (25, 2), (26, 2), (27, 2), (5, 1), (100, 1), (101, 1), (102, 1), (103, 1), (104, 1), (105, 1), (106, 1), (107, 1), (108, 1), (109, 1), (110, 1), (111, 1), (112, 1)]) E E := Fr.refl
  have hl : lv_has ls 9 [(0, .ref a0), (1, .ref a1), (2, .int a2), (3, .int a3)] := hl
  generalize hQ : MQ below _ args s 0 0 _ = QQ
  have J40 : ∀ (n : Nat) (x4_40 : Int32) (x5_40 : Int32) (E_40 : Ec) (H_40 : Heap) (k_40 : List Loc) (l_40 : Array Slot), Now D TB cy (va_A (va_pl L E) sz) s L τ E_40 H_40 k_40 → Fr L τ (inW [(8, 0), (37, 0), (38, 0), (6, 1), (1, 2), (20, 2), (21, 2), (22, 2), (23, 2), (24, 2), (25, 2), (26, 2), (27, 2), (5, 1), (100, 1), (101, 1), (102, 1), (103, 1), (104, 1), (105, 1), (106, 1), (107, 1), (108, 1), (109, 1), (110, 1), (111, 1), (112, 1)]) E E_40 → (2 ≤ a3.toInt) → (a3.toInt ≤ 67) → (2 ≤ x5_40.toInt) → (x5_40.toInt ≤ 68) → (68 - x5_40.toInt).toNat < n → lv_has l_40 9 [(0, .ref a0), (3, .int a3), (4, .int x4_40), (5, .int x5_40)] → W p l e { frames := 6, cells := 0, slots := 0, locals := 146 } s m args below meth c H_40 k_40 0 0 QQ (F0 m 40 l_40 []) := by
    intro n
    induction n with
    | zero => intro x4_40 x5_40 E_40 H_40 k_40 l_40 S_40 F_40 z1 z2 z3 z4 hm hl_40; exact absurd hm (Nat.not_lt_zero _)
    | succ n ih =>
      intro x4_40 x5_40 E_40 H_40 k_40 l_40 S_40 F_40 z1 z2 z3 z4 hm hl_40
      have ih_40 := ih
      have J68 : ∀ (n : Nat) (x6_68 : Int32) (x7_68 : Int32) (E_68 : Ec) (H_68 : Heap) (k_68 : List Loc) (l_68 : Array Slot), Now D TB cy (va_A (va_pl L E) sz) s L τ E_68 H_68 k_68 → Fr L τ (inW [(8, 0), (37, 0), (38, 0), (6, 1), (1, 2), (20, 2), (21, 2), (22, 2), (23, 2), (24, 2), (25, 2), (26, 2), (27, 2), (5, 1), (100, 1), (101, 1), (102, 1), (103, 1), (104, 1), (105, 1), (106, 1), (107, 1), (108, 1), (109, 1), (110, 1), (111, 1), (112, 1)]) E E_68 → (2 ≤ a3.toInt) → (a3.toInt ≤ 67) → (2 ≤ x5_40.toInt) → (x5_40.toInt ≤ 67) → (1 ≤ x7_68.toInt) → (x7_68.toInt ≤ 21) → (21 - x7_68.toInt).toNat < n → lv_has l_68 9 [(0, .ref a0), (3, .int a3), (4, .int x4_40), (5, .int x5_40), (6, .int x6_68), (7, .int x7_68)] → W p l e { frames := 6, cells := 0, slots := 0, locals := 146 } s m args below meth c H_68 k_68 0 0 QQ (F0 m 68 l_68 []) := by
        intro n
        induction n with
        | zero => intro x6_68 x7_68 E_68 H_68 k_68 l_68 S_68 F_68 z5 z6 z7 z8 z9 z10 hm hl_68; exact absurd hm (Nat.not_lt_zero _)
        | succ n ih =>
          intro x6_68 x7_68 E_68 H_68 k_68 l_68 S_68 F_68 z5 z6 z7 z8 z9 z10 hm hl_68
          have ih_68 := ih
          have J82 : ∀ (n : Nat) (x8_82 : Int32) (E_82 : Ec) (H_82 : Heap) (k_82 : List Loc) (l_82 : Array Slot), Now D TB cy (va_A (va_pl L E) sz) s L τ E_82 H_82 k_82 → Fr L τ (inW [(8, 0), (37, 0), (38, 0), (6, 1), (1, 2), (20, 2), (21, 2), (22, 2), (23, 2), (24, 2), (25, 2), (26, 2), (27, 2), (5, 1), (100, 1), (101, 1), (102, 1), (103, 1), (104, 1), (105, 1), (106, 1), (107, 1), (108, 1), (109, 1), (110, 1), (111, 1), (112, 1)]) E E_82 → (2 ≤ a3.toInt) → (a3.toInt ≤ 67) → (2 ≤ x5_40.toInt) → (x5_40.toInt ≤ 67) → (1 ≤ x7_68.toInt) → (x7_68.toInt ≤ 20) → (0 ≤ x8_82.toInt) → (x8_82.toInt ≤ 21) → (21 - x8_82.toInt).toNat < n → lv_has l_82 9 [(0, .ref a0), (3, .int a3), (4, .int x4_40), (5, .int x5_40), (6, .int x6_68), (7, .int x7_68), (8, .int x8_82)] → W p l e { frames := 6, cells := 0, slots := 0, locals := 146 } s m args below meth c H_82 k_82 0 0 QQ (F0 m 82 l_82 []) := by
            intro n
            induction n with
            | zero => intro x8_82 E_82 H_82 k_82 l_82 S_82 F_82 z11 z12 z13 z14 z15 z16 z17 z18 hm hl_82; exact absurd hm (Nat.not_lt_zero _)
            | succ n ih =>
              intro x8_82 E_82 H_82 k_82 l_82 S_82 F_82 z11 z12 z13 z14 z15 z16 z17 z18 hm hl_82
              have ih_82 := ih
              refine lv_iload hx hb dX7_seek_82 (lv_at hl_82 6 rfl) ?_
              refine lv_aload_n hx hb dX7_seek_84 rfl (lv_at hl_82 0 rfl) ?_
              obtain ⟨v19, ev19, tv19⟩ : ∃ v : Int32, Int32.ofInt (1) = v ∧ v.toInt = 1 := ⟨_, rfl, by decide +kernel⟩
              refine lv_iconst hx hb dX7_seek_85 ev19 ?_
              refine tc_vi Z.1 Z.2.2.2.1 Z.2.2.2.2.1 Z.2.2.2.2.2 S_82.1 S_82.2 ha0 ta0 rfl rfl (k_X7_mostIn l D cy S_82.2 ha0 ta0 v19) (cwV 1 hts gX7_seek_X7_mostIn rfl rfl rfl (by decide +kernel) ⟨Nat.le_of_ble_eq_true rfl, Nat.le_of_ble_eq_true rfl⟩) rfl hl_82.1 rfl (Nat.le_of_ble_eq_true rfl) dX7_seek_86 ⟨Nat.zero_le _, Nat.zero_le _⟩ (fun v23 E20 H21 k22 W20 I20 G20 p20 => ?_)
              obtain ⟨q20, p20_0, p20_1⟩ := p20
              have q20 := q20.symm
              subst q20
              have S20 : Now D TB cy (va_A (va_pl L E) sz) s L τ E_82 H21 k22 := ⟨W20, I20⟩
              refine lv_icmp_gt (tgt := 116) hx hb dX7_seek_89 (by decide) (fun c24 => ?_) (fun c24 => ?_)
              · skip
                have tc24 := nu_lt c24
                obtain ⟨v25, ev25⟩ : ∃ y : Int32, x7_68 + Int32.ofInt (1) = y := ⟨_, rfl⟩
                have tv25 : v25.toInt = x7_68.toInt + (1) := by rw [← ev25]; exact (fb_addI (by rw [show (Int32.ofInt (1)).toInt = 1 from by decide +kernel]; omega) (by rw [show (Int32.ofInt (1)).toInt = 1 from by decide +kernel]; omega)).trans (by rw [show (Int32.ofInt (1)).toInt = 1 from by decide +kernel])
                refine lv_iinc (v := v25) (lv' := [(7, .int v25), (0, .ref a0), (3, .int a3), (4, .int x4_40), (5, .int x5_40), (6, .int x6_68), (8, .int x8_82)]) hx hb dX7_seek_116 hl_82 (k := 5) rfl ev25 (by decide) rfl (fun l26 hl27 => ?_)
                refine lv_goto (tgt := 68) hx hb dX7_seek_119 (by decide) ?_
                exact ih_68 x6_68 v25 E_82 H21 k22 l26 S20 F_82 (by have := fb_rng x4_40; have := fb_rng x6_68; omega) (by have := fb_rng x4_40; have := fb_rng x6_68; omega) (by have := fb_rng x4_40; have := fb_rng x6_68; omega) (by have := fb_rng x4_40; have := fb_rng x6_68; omega) (by have := fb_rng x4_40; have := fb_rng x6_68; omega) (by have := fb_rng x4_40; have := fb_rng x6_68; omega) (by omega) (lv_sub hl27 [1, 2, 3, 4, 5, 0] rfl)
              · skip
                have tc24 := nu_nlt c24
                refine lv_aload_n hx hb dX7_seek_92 rfl (lv_at hl_82 0 rfl) ?_
                refine lv_iload hx hb dX7_seek_93 (lv_at hl_82 3 rfl) ?_
                refine lv_iload hx hb dX7_seek_95 (lv_at hl_82 5 rfl) ?_
                refine lv_iload hx hb dX7_seek_97 (lv_at hl_82 6 rfl) ?_
                refine lv_iload hx hb dX7_seek_99 (lv_at hl_82 4 rfl) ?_
                refine lv_iload hx hb dX7_seek_101 (lv_at hl_82 5 rfl) ?_
                refine lv_isub hx hb dX7_seek_103 ?_
                refine lv_topi (fun v28 ev28 => ?_)
                refine lv_iload hx hb dX7_seek_104 (lv_at hl_82 6 rfl) ?_
                refine lv_isub hx hb dX7_seek_106 ?_
                refine lv_topi (fun v29 ev29 => ?_)
                refine tc_vv Z.1 Z.2.2.2.1 Z.2.2.2.2.1 Z.2.2.2.2.2 S20.1 S20.2 ha0 ta0 rfl rfl (k_X7_tryWay l D cy S20.2 ha0 ta0 x5_40 x7_68 x8_82 v29) (cwV 4 hts gX7_seek_X7_tryWay rfl rfl rfl (by decide +kernel) ⟨Nat.le_of_ble_eq_true rfl, Nat.le_of_ble_eq_true rfl⟩) rfl hl_82.1 rfl (Nat.le_of_ble_eq_true rfl) dX7_seek_107 ⟨Nat.zero_le _, Nat.zero_le _⟩ (fun E30 H31 k32 W30 I30 G30 p30 => ?_)
                have S30 : Now D TB cy (va_A (va_pl L E) sz) s L τ E30 H31 k32 := ⟨W30, I30⟩
                have F30 : Fr L τ (inW [(8, 0), (37, 0), (38, 0), (6, 1), (1, 2), (20, 2), (21, 2), (22, 2), (23, 2), (24, 2), (25, 2), (26, 2), (27, 2), (5, 1), (100, 1), (101, 1), (102, 1), (103, 1), (104, 1), (105, 1), (106, 1), (107, 1), (108, 1), (109, 1), (110, 1), (111, 1), (112, 1)]) E E30 := F_82.trans (G30.mono (inW_mono (by decide)))
                obtain ⟨v34, ev34⟩ : ∃ y : Int32, x8_82 + Int32.ofInt (1) = y := ⟨_, rfl⟩
                have tv34 : v34.toInt = x8_82.toInt + (1) := by rw [← ev34]; exact (fb_addI (by rw [show (Int32.ofInt (1)).toInt = 1 from by decide +kernel]; omega) (by rw [show (Int32.ofInt (1)).toInt = 1 from by decide +kernel]; omega)).trans (by rw [show (Int32.ofInt (1)).toInt = 1 from by decide +kernel])
                refine lv_iinc (v := v34) (lv' := [(8, .int v34), (0, .ref a0), (3, .int a3), (4, .int x4_40), (5, .int x5_40), (6, .int x6_68), (7, .int x7_68)]) hx hb dX7_seek_110 hl_82 (k := 6) rfl ev34 (by decide) rfl (fun l35 hl36 => ?_)
                refine lv_goto (tgt := 82) hx hb dX7_seek_113 (by decide) ?_
                exact ih_82 v34 E30 H31 k32 l35 S30 F30 (by have := fb_rng x4_40; have := fb_rng x6_68; omega) (by have := fb_rng x4_40; have := fb_rng x6_68; omega) (by have := fb_rng x4_40; have := fb_rng x6_68; omega) (by have := fb_rng x4_40; have := fb_rng x6_68; omega) (by have := fb_rng x4_40; have := fb_rng x6_68; omega) (by have := fb_rng x4_40; have := fb_rng x6_68; omega) (by have := fb_rng x4_40; have := fb_rng x6_68; omega) (by have := fb_rng x4_40; have := fb_rng x6_68; omega) (by omega) (lv_sub hl36 [1, 2, 3, 4, 5, 6, 0] rfl)
          refine lv_iload hx hb dX7_seek_68 (lv_at hl_68 5 rfl) ?_
          obtain ⟨v37, ev37, tv37⟩ : ∃ v : Int32, (Int8.ofInt (20)).toInt32 = v ∧ v.toInt = 20 := ⟨_, rfl, by decide +kernel⟩
          refine lv_bipush hx hb dX7_seek_70 ev37 ?_
          refine lv_icmp_gt (tgt := 122) hx hb dX7_seek_72 (by decide) (fun c38 => ?_) (fun c38 => ?_)
          · skip
            have tc38 := nu_lt c38
            obtain ⟨v39, ev39⟩ : ∃ y : Int32, x5_40 + Int32.ofInt (1) = y := ⟨_, rfl⟩
            have tv39 : v39.toInt = x5_40.toInt + (1) := by rw [← ev39]; exact (fb_addI (by rw [show (Int32.ofInt (1)).toInt = 1 from by decide +kernel]; omega) (by rw [show (Int32.ofInt (1)).toInt = 1 from by decide +kernel]; omega)).trans (by rw [show (Int32.ofInt (1)).toInt = 1 from by decide +kernel])
            refine lv_iinc (v := v39) (lv' := [(5, .int v39), (0, .ref a0), (3, .int a3), (4, .int x4_40), (6, .int x6_68), (7, .int x7_68)]) hx hb dX7_seek_122 hl_68 (k := 3) rfl ev39 (by decide) rfl (fun l40 hl41 => ?_)
            refine lv_goto (tgt := 40) hx hb dX7_seek_125 (by decide) ?_
            exact ih_40 x4_40 v39 E_68 H_68 k_68 l40 S_68 F_68 (by have := fb_rng x4_40; have := fb_rng x6_68; omega) (by have := fb_rng x4_40; have := fb_rng x6_68; omega) (by have := fb_rng x4_40; have := fb_rng x6_68; omega) (by have := fb_rng x4_40; have := fb_rng x6_68; omega) (by omega) (lv_sub hl41 [1, 2, 3, 0] rfl)
          · skip
            have tc38 := nu_nlt c38
            refine lv_aload_n hx hb dX7_seek_75 rfl (lv_at hl_68 0 rfl) ?_
            obtain ⟨v42, ev42, tv42⟩ : ∃ v : Int32, Int32.ofInt (1) = v ∧ v.toInt = 1 := ⟨_, rfl, by decide +kernel⟩
            refine lv_iconst hx hb dX7_seek_76 ev42 ?_
            refine tc_vi Z.1 Z.2.2.2.1 Z.2.2.2.2.1 Z.2.2.2.2.2 S_68.1 S_68.2 ha0 ta0 rfl rfl (k_X7_fewestIn l D cy S_68.2 ha0 ta0 v42) (cwV 1 hts gX7_seek_X7_fewestIn rfl rfl rfl (by decide +kernel) ⟨Nat.le_of_ble_eq_true rfl, Nat.le_of_ble_eq_true rfl⟩) rfl hl_68.1 rfl (Nat.le_of_ble_eq_true rfl) dX7_seek_77 ⟨Nat.zero_le _, Nat.zero_le _⟩ (fun v46 E43 H44 k45 W43 I43 G43 p43 => ?_)
            obtain ⟨q43, p43_0, p43_1⟩ := p43
            have q43 := q43.symm
            subst q43
            have S43 : Now D TB cy (va_A (va_pl L E) sz) s L τ E_68 H44 k45 := ⟨W43, I43⟩
            refine lv_istore (lv' := [(8, .int v46), (0, .ref a0), (3, .int a3), (4, .int x4_40), (5, .int x5_40), (6, .int x6_68), (7, .int x7_68)]) hx hb dX7_seek_80 hl_68 (by decide) rfl (fun l47 hl48 => ?_)
            exact J82 _ v46 E_68 H44 k45 l47 S43 F_68 (by have := fb_rng x4_40; have := fb_rng x6_68; omega) (by have := fb_rng x4_40; have := fb_rng x6_68; omega) (by have := fb_rng x4_40; have := fb_rng x6_68; omega) (by have := fb_rng x4_40; have := fb_rng x6_68; omega) (by have := fb_rng x4_40; have := fb_rng x6_68; omega) (by have := fb_rng x4_40; have := fb_rng x6_68; omega) (by have := fb_rng x4_40; have := fb_rng x6_68; omega) (by have := fb_rng x4_40; have := fb_rng x6_68; omega) (Nat.lt_succ_self _) (lv_sub hl48 [1, 2, 3, 4, 5, 6, 0] rfl)
      refine lv_iload hx hb dX7_seek_40 (lv_at hl_40 3 rfl) ?_
      refine lv_iload_n hx hb dX7_seek_42 rfl (lv_at hl_40 1 rfl) ?_
      refine lv_icmp_gt (tgt := 128) hx hb dX7_seek_43 (by decide) (fun c49 => ?_) (fun c49 => ?_)
      · skip
        have tc49 := nu_lt c49
        rw [← hQ]
        exact en_v Z S_40 F_40 trivial dX7_seek_128
      · skip
        have tc49 := nu_nlt c49
        refine lv_aload_n hx hb dX7_seek_46 rfl (lv_at hl_40 0 rfl) ?_
        refine tr_geti Z.1 Z.2.2.2.1 S_40.1 S_40.2 ha0 ta0 rfl rfl (fun _ h => List.mem_cons_of_mem _ (List.mem_append_left _ (List.mem_append_left _ (List.mem_append_left _ (List.mem_append_left _ (List.mem_append_right _ h)))))) 7 (by decide) rfl (hts _ (List.mem_of_getElem? (i := 5) rfl)) dX7_seek_47 (fun v50 ev50 lv50 uv50 => ?_)
        obtain ⟨v51, ev51, tv51⟩ : ∃ v : Int32, (Int16.ofInt (2000)).toInt32 = v ∧ v.toInt = 2000 := ⟨_, rfl, by decide +kernel⟩
        refine lv_sipush hx hb dX7_seek_50 ev51 ?_
        refine lv_icmp_ge (tgt := 128) hx hb dX7_seek_53 (by decide) (fun c52 => ?_) (fun c52 => ?_)
        · skip
          have tc52 := nu_le c52
          rw [← hQ]
          exact en_v Z S_40 F_40 trivial dX7_seek_128
        · skip
          have tc52 := nu_nle c52
          refine lv_iload hx hb dX7_seek_56 (lv_at hl_40 3 rfl) ?_
          obtain ⟨v53, ev53, tv53⟩ : ∃ v : Int32, Int32.ofInt (1) = v ∧ v.toInt = 1 := ⟨_, rfl, by decide +kernel⟩
          refine lv_iconst hx hb dX7_seek_58 ev53 ?_
          refine lv_isub hx hb dX7_seek_59 ?_
          refine lv_topi (fun v54 ev54 => ?_)
          have tv54 := nu_sub ev54 (by omega) (by omega)
          refine lv_iload hx hb dX7_seek_60 (lv_at hl_40 2 rfl) ?_
          refine lv_isub hx hb dX7_seek_62 ?_
          refine lv_topi (fun v55 ev55 => ?_)
          refine lv_istore (lv' := [(6, .int v55), (0, .ref a0), (3, .int a3), (4, .int x4_40), (5, .int x5_40)]) hx hb dX7_seek_63 hl_40 (by decide) rfl (fun l56 hl57 => ?_)
          obtain ⟨v58, ev58, tv58⟩ : ∃ v : Int32, Int32.ofInt (1) = v ∧ v.toInt = 1 := ⟨_, rfl, by decide +kernel⟩
          refine lv_iconst hx hb dX7_seek_65 ev58 ?_
          refine lv_istore (lv' := [(7, .int v58), (6, .int v55), (0, .ref a0), (3, .int a3), (4, .int x4_40), (5, .int x5_40)]) hx hb dX7_seek_66 hl57 (by decide) rfl (fun l59 hl60 => ?_)
          exact J68 _ v55 v58 E_40 H_40 k_40 l59 S_40 F_40 (by have := fb_rng v55; have := fb_rng x4_40; omega) (by have := fb_rng v55; have := fb_rng x4_40; omega) (by have := fb_rng v55; have := fb_rng x4_40; omega) (by have := fb_rng v55; have := fb_rng x4_40; omega) (by have := fb_rng v55; have := fb_rng x4_40; omega) (by have := fb_rng v55; have := fb_rng x4_40; omega) (Nat.lt_succ_self _) (lv_sub hl60 [2, 3, 4, 5, 1, 0] rfl)
  refine lv_aload_n hx hb dX7_seek_0 rfl (lv_at hl 0 rfl) ?_
  refine tr_getr Z.1 Z.2.2.2.1 S0.1 S0.2 ha0 ta0 rfl rfl (fun _ h => List.mem_cons_of_mem _ (List.mem_append_left _ (List.mem_append_left _ (List.mem_append_left _ (List.mem_append_left _ (List.mem_append_right _ h)))))) 0 (by decide) rfl (hts _ (List.mem_of_getElem? (i := 1) rfl)) dX7_seek_1 (fun q61 eq61 hq61 tq61 => ?_)
  have tq61 : τ q61 = (1, 2) := tq61
  refine lv_aload_n hx hb dX7_seek_4 rfl (lv_at hl 1 rfl) ?_
  refine tc_vv Z.1 Z.2.2.2.1 Z.2.2.2.2.1 Z.2.2.2.2.2 S0.1 S0.2 hq61 tq61 rfl rfl (k_X4_copy_v20 l D cy S0.2 hq61 tq61 ha1 ta1) (cwV 1 hts gX7_seek_X4_copy rfl rfl rfl (by decide +kernel) ⟨Nat.le_of_ble_eq_true rfl, Nat.le_of_ble_eq_true rfl⟩) rfl hl.1 rfl (Nat.le_of_ble_eq_true rfl) dX7_seek_5 ⟨Nat.zero_le _, Nat.zero_le _⟩ (fun E62 H63 k64 W62 I62 G62 p62 => ?_)
  have S62 : Now D TB cy (va_A (va_pl L E) sz) s L τ E62 H63 k64 := ⟨W62, I62⟩
  have F62 : Fr L τ (inW [(8, 0), (37, 0), (38, 0), (6, 1), (1, 2), (20, 2), (21, 2), (22, 2), (23, 2), (24, 2), (25, 2), (26, 2), (27, 2), (5, 1), (100, 1), (101, 1), (102, 1), (103, 1), (104, 1), (105, 1), (106, 1), (107, 1), (108, 1), (109, 1), (110, 1), (111, 1), (112, 1)]) E E62 := F0_.trans (G62.mono (inW_mono (by decide)))
  refine lv_aload_n hx hb dX7_seek_8 rfl (lv_at hl 0 rfl) ?_
  obtain ⟨v66, ev66, tv66⟩ : ∃ v : Int32, Int32.ofInt (1) = v ∧ v.toInt = 1 := ⟨_, rfl, by decide +kernel⟩
  refine lv_iconst hx hb dX7_seek_9 ev66 ?_
  refine tr_putz Z.1 Z.2.2.2.1 S62.1 S62.2 ha0 ta0 rfl rfl (fun _ h => List.mem_cons_of_mem _ (List.mem_append_left _ (List.mem_append_left _ (List.mem_append_left _ (List.mem_append_left _ (List.mem_append_right _ h)))))) tyX7_ok nmX7 5 (by decide) rfl rfl rfl (hts _ (List.mem_of_getElem? (i := 2) rfl)) dX7_seek_10 (by omega) (by omega) (fun E67 H68 k69 W67 I67 P67 => ?_)
  have S67 : Now D TB cy (va_A (va_pl L E) sz) s L τ E67 H68 k69 := ⟨W67, I67⟩
  have F67 : Fr L τ (inW [(8, 0), (37, 0), (38, 0), (6, 1), (1, 2), (20, 2), (21, 2), (22, 2), (23, 2), (24, 2), (25, 2), (26, 2), (27, 2), (5, 1), (100, 1), (101, 1), (102, 1), (103, 1), (104, 1), (105, 1), (106, 1), (107, 1), (108, 1), (109, 1), (110, 1), (111, 1), (112, 1)]) E E67 := Fr.put F62 P67 ta0 rfl
  refine lv_aload_n hx hb dX7_seek_13 rfl (lv_at hl 0 rfl) ?_
  refine lv_aload_n hx hb dX7_seek_14 rfl (lv_at hl 1 rfl) ?_
  refine tr_geti Z.1 Z.2.2.2.1 S67.1 S67.2 ha1 ta1 rfl rfl (fun _ h => List.mem_cons_of_mem _ (List.mem_append_left _ (List.mem_append_left _ (List.mem_append_left _ (List.mem_append_right _ h))))) 4 (by decide) rfl (hts _ (List.mem_of_getElem? (i := 3) rfl)) dX7_seek_15 (fun v70 ev70 lv70 uv70 => ?_)
  refine tr_puti Z.1 Z.2.2.2.1 S67.1 S67.2 ha0 ta0 rfl rfl (fun _ h => List.mem_cons_of_mem _ (List.mem_append_left _ (List.mem_append_left _ (List.mem_append_left _ (List.mem_append_left _ (List.mem_append_right _ h)))))) tyX7_ok nmX7 6 (by decide) rfl rfl rfl (hts _ (List.mem_of_getElem? (i := 4) rfl)) dX7_seek_18 (by have := fb_rng v70; omega) (by have := fb_rng v70; omega) (fun E71 H72 k73 W71 I71 P71 => ?_)
  have S71 : Now D TB cy (va_A (va_pl L E) sz) s L τ E71 H72 k73 := ⟨W71, I71⟩
  have F71 : Fr L τ (inW [(8, 0), (37, 0), (38, 0), (6, 1), (1, 2), (20, 2), (21, 2), (22, 2), (23, 2), (24, 2), (25, 2), (26, 2), (27, 2), (5, 1), (100, 1), (101, 1), (102, 1), (103, 1), (104, 1), (105, 1), (106, 1), (107, 1), (108, 1), (109, 1), (110, 1), (111, 1), (112, 1)]) E E71 := Fr.put F67 P71 ta0 rfl
  refine lv_aload_n hx hb dX7_seek_21 rfl (lv_at hl 0 rfl) ?_
  obtain ⟨v74, ev74, tv74⟩ : ∃ v : Int32, Int32.ofInt (0) = v ∧ v.toInt = 0 := ⟨_, rfl, by decide +kernel⟩
  refine lv_iconst hx hb dX7_seek_22 ev74 ?_
  refine tr_puti Z.1 Z.2.2.2.1 S71.1 S71.2 ha0 ta0 rfl rfl (fun _ h => List.mem_cons_of_mem _ (List.mem_append_left _ (List.mem_append_left _ (List.mem_append_left _ (List.mem_append_left _ (List.mem_append_right _ h)))))) tyX7_ok nmX7 7 (by decide) rfl rfl rfl (hts _ (List.mem_of_getElem? (i := 5) rfl)) dX7_seek_23 (by omega) (by omega) (fun E75 H76 k77 W75 I75 P75 => ?_)
  have S75 : Now D TB cy (va_A (va_pl L E) sz) s L τ E75 H76 k77 := ⟨W75, I75⟩
  have F75 : Fr L τ (inW [(8, 0), (37, 0), (38, 0), (6, 1), (1, 2), (20, 2), (21, 2), (22, 2), (23, 2), (24, 2), (25, 2), (26, 2), (27, 2), (5, 1), (100, 1), (101, 1), (102, 1), (103, 1), (104, 1), (105, 1), (106, 1), (107, 1), (108, 1), (109, 1), (110, 1), (111, 1), (112, 1)]) E E75 := Fr.put F71 P75 ta0 rfl
  refine lv_aload_n hx hb dX7_seek_26 rfl (lv_at hl 0 rfl) ?_
  obtain ⟨v78, ev78, tv78⟩ : ∃ v : Int32, Int32.ofInt (0) = v ∧ v.toInt = 0 := ⟨_, rfl, by decide +kernel⟩
  refine lv_iconst hx hb dX7_seek_27 ev78 ?_
  refine tr_puti Z.1 Z.2.2.2.1 S75.1 S75.2 ha0 ta0 rfl rfl (fun _ h => List.mem_cons_of_mem _ (List.mem_append_left _ (List.mem_append_left _ (List.mem_append_left _ (List.mem_append_left _ (List.mem_append_right _ h)))))) tyX7_ok nmX7 8 (by decide) rfl rfl rfl (hts _ (List.mem_of_getElem? (i := 6) rfl)) dX7_seek_28 (by have := fb_rng v78; omega) (by have := fb_rng v78; omega) (fun E79 H80 k81 W79 I79 P79 => ?_)
  have S79 : Now D TB cy (va_A (va_pl L E) sz) s L τ E79 H80 k81 := ⟨W79, I79⟩
  have F79 : Fr L τ (inW [(8, 0), (37, 0), (38, 0), (6, 1), (1, 2), (20, 2), (21, 2), (22, 2), (23, 2), (24, 2), (25, 2), (26, 2), (27, 2), (5, 1), (100, 1), (101, 1), (102, 1), (103, 1), (104, 1), (105, 1), (106, 1), (107, 1), (108, 1), (109, 1), (110, 1), (111, 1), (112, 1)]) E E79 := Fr.put F75 P79 ta0 rfl
  refine lv_aload_n hx hb dX7_seek_31 rfl (lv_at hl 1 rfl) ?_
  refine tc_vi Z.1 Z.2.2.2.1 Z.2.2.2.2.1 Z.2.2.2.2.2 S79.1 S79.2 ha1 ta1 rfl rfl (k_X4_turnTreads_v0 l D cy S79.2 ha1 ta1) (cwV 0 hts gX7_seek_X4_turnTreads rfl rfl rfl (by decide +kernel) ⟨Nat.le_of_ble_eq_true rfl, Nat.le_of_ble_eq_true rfl⟩) rfl hl.1 rfl (Nat.le_of_ble_eq_true rfl) dX7_seek_32 ⟨Nat.zero_le _, Nat.zero_le _⟩ (fun v85 E82 H83 k84 W82 I82 G82 p82 => ?_)
  have q82 := p82
  have q82 := q82.symm
  subst q82
  have S82 : Now D TB cy (va_A (va_pl L E) sz) s L τ E79 H83 k84 := ⟨W82, I82⟩
  refine lv_istore (lv' := [(4, .int v85), (0, .ref a0), (1, .ref a1), (2, .int a2), (3, .int a3)]) hx hb dX7_seek_35 hl (by decide) rfl (fun l86 hl87 => ?_)
  refine lv_iload_n hx hb dX7_seek_37 rfl (lv_at hl87 3 rfl) ?_
  refine lv_istore (lv' := [(5, .int a2), (4, .int v85), (0, .ref a0), (1, .ref a1), (2, .int a2), (3, .int a3)]) hx hb dX7_seek_38 hl87 (by decide) rfl (fun l88 hl89 => ?_)
  exact J40 _ v85 a2 E79 H83 k84 l88 S82 F79 (by have := fb_rng v85; omega) (by have := fb_rng v85; omega) (by have := fb_rng v85; omega) (by have := fb_rng v85; omega) (Nat.lt_succ_self _) (lv_sub hl89 [2, 5, 1, 0] rfl)

