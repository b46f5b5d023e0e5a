theorem dX6_put_0 : decode cX6_put 0 = .ok (.aload_n 0, 1) := by decide +kernel
theorem dX6_put_1 : decode cX6_put 1 = .ok (.getfield 16, 3) := by decide +kernel
theorem dX6_put_4 : decode cX6_put 4 = .ok (.bipush 66, 2) := by decide +kernel
theorem dX6_put_6 : decode cX6_put 6 = .ok (.if_icmp .ge 15, 3) := by decide +kernel
theorem dX6_put_9 : decode cX6_put 9 = .ok (.aload_n 0, 1) := by decide +kernel
theorem dX6_put_10 : decode cX6_put 10 = .ok (.getfield 13, 3) := by decide +kernel
theorem dX6_put_13 : decode cX6_put 13 = .ok (.iload_n 1, 1) := by decide +kernel
theorem dX6_put_14 : decode cX6_put 14 = .ok (.aaload, 1) := by decide +kernel
theorem dX6_put_15 : decode cX6_put 15 = .ok (.aload_n 0, 1) := by decide +kernel
theorem dX6_put_16 : decode cX6_put 16 = .ok (.getfield 16, 3) := by decide +kernel
theorem dX6_put_19 : decode cX6_put 19 = .ok (.iload_n 2, 1) := by decide +kernel
theorem dX6_put_20 : decode cX6_put 20 = .ok (.iastore, 1) := by decide +kernel
theorem dX6_put_21 : decode cX6_put 21 = .ok (.return_, 1) := by decide +kernel
set_option maxHeartbeats 4000000 in
set_option maxRecDepth 100000 in
theorem k_X6_put_v0_0 (l : Launch) (D : va_G) (cy : Nat → ClassId) {L : List Nat} {τ : Nat → Ro} {E : Ec} (hI : Inv TB cy L τ E) {a0 : Nat} (ha0 : a0 ∈ L) (ta0 : τ a0 = (5, 0)) (a1 : Int32) (la1 : 0 ≤ a1.toInt) (ua1 : a1.toInt ≤ 0) (a2 : Int32) (la2 : 0 ≤ a2.toInt) (ua2 : a2.toInt ≤ 3) : CtV l yX6_put wsX6_put { frames := 0, cells := 0, slots := 0, locals := 0 } D TB cy L τ E [.ref a0, .int a1, .int a2] (inW [(100, 0)]) (fun E' => True) := by
  intro sz
  refine sta (cc := cX6_put) (maxL := 3) hI (by decide) rfl (Nat.le_of_ble_eq_true rfl) (fun p e s m args below meth c ls hsz Z S0 hl => ?_)
  have hx := Z.1.1
  have hb := Z.1.2.1
  have hts := Z.1.2.2.2.2
  have F0_ : Fr L τ (inW [(100, 0)]) E E := Fr.refl
  have hl : lv_has ls 3 [(0, .ref a0), (1, .int a1), (2, .int a2)] := hl
  generalize hQ : MQ below _ args s 0 0 _ = QQ
  refine lv_aload_n hx hb dX6_put_0 rfl (lv_at hl 0 rfl) ?_
  refine tr_geti Z.1 Z.2.2.2.1 S0.1 S0.2 ha0 ta0 rfl rfl (fun _ h => List.mem_cons_of_mem _ (List.mem_append_right _ h)) 1 (by decide) rfl (hts _ (List.mem_of_getElem? (i := 1) rfl)) dX6_put_1 (fun v1 ev1 lv1 uv1 => ?_)
  obtain ⟨v2, ev2, tv2⟩ : ∃ v : Int32, (Int8.ofInt (66)).toInt32 = v ∧ v.toInt = 66 := ⟨_, rfl, by decide +kernel⟩
  refine lv_bipush hx hb dX6_put_4 ev2 ?_
  refine lv_icmp_ge (tgt := 21) hx hb dX6_put_6 (by decide) (fun c3 => ?_) (fun c3 => ?_)
  · skip
    have tc3 := nu_le c3
    rw [← hQ]
    exact en_v Z S0 F0_ trivial dX6_put_21
  · skip
    have tc3 := nu_nle c3
    refine lv_aload_n hx hb dX6_put_9 rfl (lv_at hl 0 rfl) ?_
    refine tr_getr Z.1 Z.2.2.2.1 S0.1 S0.2 ha0 ta0 rfl rfl (fun _ h => List.mem_cons_of_mem _ (List.mem_append_right _ h)) 0 (by decide) rfl (hts _ (List.mem_of_getElem? (i := 2) rfl)) dX6_put_10 (fun q4 eq4 hq4 tq4 => ?_)
    have tq4 : τ q4 = (30, 0) := tq4
    refine lv_iload_n hx hb dX6_put_13 rfl (lv_at hl 1 rfl) ?_
    refine tr_aaldr (ra := 100) (rb := 0) Z.1 Z.2.2.2.1 S0.1 S0.2 hq4 tq4 rfl (row_at (w := 0) (by omega)) rfl rfl (by omega) (by omega) dX6_put_14 (fun q5 eq5 hq5 tq5 => ?_)
    have tq5 : τ q5 = (100, 0) := tq5
    refine lv_aload_n hx hb dX6_put_15 rfl (lv_at hl 0 rfl) ?_
    refine tr_geti Z.1 Z.2.2.2.1 S0.1 S0.2 ha0 ta0 rfl rfl (fun _ h => List.mem_cons_of_mem _ (List.mem_append_right _ h)) 1 (by decide) rfl (hts _ (List.mem_of_getElem? (i := 1) rfl)) dX6_put_16 (fun v6 ev6 lv6 uv6 => ?_)
    have wv6 : v6 = v1 := ev6.symm.trans ev1
    have xv6 : v6.toInt = v1.toInt := by rw [wv6]
    refine lv_iload_n hx hb dX6_put_19 rfl (lv_at hl 2 rfl) ?_
    refine tr_iast Z.1 Z.2.2.2.1 S0.1 S0.2 hq5 tq5 rfl (by omega) (by omega) (by omega) (by omega) dX6_put_20 (fun E7 H8 k9 W7 I7 P7 => ?_)
    have S7 : Now D TB cy (va_A (va_pl L E) sz) s L τ E7 H8 k9 := ⟨W7, I7⟩
    have F7 : Fr L τ (inW [(100, 0)]) E E7 := Fr.set F0_ P7 tq5 rfl
    rw [← hQ]
    exact en_v Z S7 F7 trivial dX6_put_21

set_option maxHeartbeats 4000000 in
set_option maxRecDepth 100000 in
theorem k_X6_put_v0_4 (l : Launch) (D : va_G) (cy : Nat → ClassId) {L : List Nat} {τ : Nat → Ro} {E : Ec} (hI : Inv TB cy L τ E) {a0 : Nat} (ha0 : a0 ∈ L) (ta0 : τ a0 = (5, 0)) (a1 : Int32) (la1 : 4 ≤ a1.toInt) (ua1 : a1.toInt ≤ 4) (a2 : Int32) : CtV l yX6_put wsX6_put { frames := 0, cells := 0, slots := 0, locals := 0 } D TB cy L τ E [.ref a0, .int a1, .int a2] (inW [(104, 0)]) (fun E' => True) := by
  intro sz
  refine sta (cc := cX6_put) (maxL := 3) hI (by decide) rfl (Nat.le_of_ble_eq_true rfl) (fun p e s m args below meth c ls hsz Z S0 hl => ?_)
  have hx := Z.1.1
  have hb := Z.1.2.1
  have hts := Z.1.2.2.2.2
  have F0_ : Fr L τ (inW [(104, 0)]) E E := Fr.refl
  have hl : lv_has ls 3 [(0, .ref a0), (1, .int a1), (2, .int a2)] := hl
  generalize hQ : MQ below _ args s 0 0 _ = QQ
  refine lv_aload_n hx hb dX6_put_0 rfl (lv_at hl 0 rfl) ?_
  refine tr_geti Z.1 Z.2.2.2.1 S0.1 S0.2 ha0 ta0 rfl rfl (fun _ h => List.mem_cons_of_mem _ (List.mem_append_right _ h)) 1 (by decide) rfl (hts _ (List.mem_of_getElem? (i := 1) rfl)) dX6_put_1 (fun v1 ev1 lv1 uv1 => ?_)
  obtain ⟨v2, ev2, tv2⟩ : ∃ v : Int32, (Int8.ofInt (66)).toInt32 = v ∧ v.toInt = 66 := ⟨_, rfl, by decide +kernel⟩
  refine lv_bipush hx hb dX6_put_4 ev2 ?_
  refine lv_icmp_ge (tgt := 21) hx hb dX6_put_6 (by decide) (fun c3 => ?_) (fun c3 => ?_)
  · skip
    have tc3 := nu_le c3
    rw [← hQ]
    exact en_v Z S0 F0_ trivial dX6_put_21
  · skip
    have tc3 := nu_nle c3
    refine lv_aload_n hx hb dX6_put_9 rfl (lv_at hl 0 rfl) ?_
    refine tr_getr Z.1 Z.2.2.2.1 S0.1 S0.2 ha0 ta0 rfl rfl (fun _ h => List.mem_cons_of_mem _ (List.mem_append_right _ h)) 0 (by decide) rfl (hts _ (List.mem_of_getElem? (i := 2) rfl)) dX6_put_10 (fun q4 eq4 hq4 tq4 => ?_)
    have tq4 : τ q4 = (30, 0) := tq4
    refine lv_iload_n hx hb dX6_put_13 rfl (lv_at hl 1 rfl) ?_
    refine tr_aaldr (ra := 104) (rb := 0) Z.1 Z.2.2.2.1 S0.1 S0.2 hq4 tq4 rfl (row_at (w := 4) (by omega)) rfl rfl (by omega) (by omega) dX6_put_14 (fun q5 eq5 hq5 tq5 => ?_)
    have tq5 : τ q5 = (104, 0) := tq5
    refine lv_aload_n hx hb dX6_put_15 rfl (lv_at hl 0 rfl) ?_
    refine tr_geti Z.1 Z.2.2.2.1 S0.1 S0.2 ha0 ta0 rfl rfl (fun _ h => List.mem_cons_of_mem _ (List.mem_append_right _ h)) 1 (by decide) rfl (hts _ (List.mem_of_getElem? (i := 1) rfl)) dX6_put_16 (fun v6 ev6 lv6 uv6 => ?_)
    have wv6 : v6 = v1 := ev6.symm.trans ev1
    have xv6 : v6.toInt = v1.toInt := by rw [wv6]
    refine lv_iload_n hx hb dX6_put_19 rfl (lv_at hl 2 rfl) ?_
    refine tr_iast Z.1 Z.2.2.2.1 S0.1 S0.2 hq5 tq5 rfl (by omega) (by omega) (by have := fb_rng a2; omega) (by have := fb_rng a2; omega) dX6_put_20 (fun E7 H8 k9 W7 I7 P7 => ?_)
    have S7 : Now D TB cy (va_A (va_pl L E) sz) s L τ E7 H8 k9 := ⟨W7, I7⟩
    have F7 : Fr L τ (inW [(104, 0)]) E E7 := Fr.set F0_ P7 tq5 rfl
    rw [← hQ]
    exact en_v Z S7 F7 trivial dX6_put_21

set_option maxHeartbeats 4000000 in
set_option maxRecDepth 100000 in
theorem k_X6_put_v0_7 (l : Launch) (D : va_G) (cy : Nat → ClassId) {L : List Nat} {τ : Nat → Ro} {E : Ec} (hI : Inv TB cy L τ E) {a0 : Nat} (ha0 : a0 ∈ L) (ta0 : τ a0 = (5, 0)) (a1 : Int32) (la1 : 7 ≤ a1.toInt) (ua1 : a1.toInt ≤ 7) (a2 : Int32) : CtV l yX6_put wsX6_put { frames := 0, cells := 0, slots := 0, locals := 0 } D TB cy L τ E [.ref a0, .int a1, .int a2] (inW [(107, 0)]) (fun E' => True) := by
  intro sz
  refine sta (cc := cX6_put) (maxL := 3) hI (by decide) rfl (Nat.le_of_ble_eq_true rfl) (fun p e s m args below meth c ls hsz Z S0 hl => ?_)
  have hx := Z.1.1
  have hb := Z.1.2.1
  have hts := Z.1.2.2.2.2
  have F0_ : Fr L τ (inW [(107, 0)]) E E := Fr.refl
  have hl : lv_has ls 3 [(0, .ref a0), (1, .int a1), (2, .int a2)] := hl
  generalize hQ : MQ below _ args s 0 0 _ = QQ
  refine lv_aload_n hx hb dX6_put_0 rfl (lv_at hl 0 rfl) ?_
  refine tr_geti Z.1 Z.2.2.2.1 S0.1 S0.2 ha0 ta0 rfl rfl (fun _ h => List.mem_cons_of_mem _ (List.mem_append_right _ h)) 1 (by decide) rfl (hts _ (List.mem_of_getElem? (i := 1) rfl)) dX6_put_1 (fun v1 ev1 lv1 uv1 => ?_)
  obtain ⟨v2, ev2, tv2⟩ : ∃ v : Int32, (Int8.ofInt (66)).toInt32 = v ∧ v.toInt = 66 := ⟨_, rfl, by decide +kernel⟩
  refine lv_bipush hx hb dX6_put_4 ev2 ?_
  refine lv_icmp_ge (tgt := 21) hx hb dX6_put_6 (by decide) (fun c3 => ?_) (fun c3 => ?_)
  · skip
    have tc3 := nu_le c3
    rw [← hQ]
    exact en_v Z S0 F0_ trivial dX6_put_21
  · skip
    have tc3 := nu_nle c3
    refine lv_aload_n hx hb dX6_put_9 rfl (lv_at hl 0 rfl) ?_
    refine tr_getr Z.1 Z.2.2.2.1 S0.1 S0.2 ha0 ta0 rfl rfl (fun _ h => List.mem_cons_of_mem _ (List.mem_append_right _ h)) 0 (by decide) rfl (hts _ (List.mem_of_getElem? (i := 2) rfl)) dX6_put_10 (fun q4 eq4 hq4 tq4 => ?_)
    have tq4 : τ q4 = (30, 0) := tq4
    refine lv_iload_n hx hb dX6_put_13 rfl (lv_at hl 1 rfl) ?_
    refine tr_aaldr (ra := 107) (rb := 0) Z.1 Z.2.2.2.1 S0.1 S0.2 hq4 tq4 rfl (row_at (w := 7) (by omega)) rfl rfl (by omega) (by omega) dX6_put_14 (fun q5 eq5 hq5 tq5 => ?_)
    have tq5 : τ q5 = (107, 0) := tq5
    refine lv_aload_n hx hb dX6_put_15 rfl (lv_at hl 0 rfl) ?_
    refine tr_geti Z.1 Z.2.2.2.1 S0.1 S0.2 ha0 ta0 rfl rfl (fun _ h => List.mem_cons_of_mem _ (List.mem_append_right _ h)) 1 (by decide) rfl (hts _ (List.mem_of_getElem? (i := 1) rfl)) dX6_put_16 (fun v6 ev6 lv6 uv6 => ?_)
    have wv6 : v6 = v1 := ev6.symm.trans ev1
    have xv6 : v6.toInt = v1.toInt := by rw [wv6]
    refine lv_iload_n hx hb dX6_put_19 rfl (lv_at hl 2 rfl) ?_
    refine tr_iast Z.1 Z.2.2.2.1 S0.1 S0.2 hq5 tq5 rfl (by omega) (by omega) (by have := fb_rng a2; omega) (by have := fb_rng a2; omega) dX6_put_20 (fun E7 H8 k9 W7 I7 P7 => ?_)
    have S7 : Now D TB cy (va_A (va_pl L E) sz) s L τ E7 H8 k9 := ⟨W7, I7⟩
    have F7 : Fr L τ (inW [(107, 0)]) E E7 := Fr.set F0_ P7 tq5 rfl
    rw [← hQ]
    exact en_v Z S7 F7 trivial dX6_put_21

set_option maxHeartbeats 4000000 in
set_option maxRecDepth 100000 in
theorem k_X6_put_v0_8 (l : Launch) (D : va_G) (cy : Nat → ClassId) {L : List Nat} {τ : Nat → Ro} {E : Ec} (hI : Inv TB cy L τ E) {a0 : Nat} (ha0 : a0 ∈ L) (ta0 : τ a0 = (5, 0)) (a1 : Int32) (la1 : 8 ≤ a1.toInt) (ua1 : a1.toInt ≤ 8) (a2 : Int32) : CtV l yX6_put wsX6_put { frames := 0, cells := 0, slots := 0, locals := 0 } D TB cy L τ E [.ref a0, .int a1, .int a2] (inW [(108, 0)]) (fun E' => True) := by
  intro sz
  refine sta (cc := cX6_put) (maxL := 3) hI (by decide) rfl (Nat.le_of_ble_eq_true rfl) (fun p e s m args below meth c ls hsz Z S0 hl => ?_)
  have hx := Z.1.1
  have hb := Z.1.2.1
  have hts := Z.1.2.2.2.2
  have F0_ : Fr L τ (inW [(108, 0)]) E E := Fr.refl
  have hl : lv_has ls 3 [(0, .ref a0), (1, .int a1), (2, .int a2)] := hl
  generalize hQ : MQ below _ args s 0 0 _ = QQ
  refine lv_aload_n hx hb dX6_put_0 rfl (lv_at hl 0 rfl) ?_
  refine tr_geti Z.1 Z.2.2.2.1 S0.1 S0.2 ha0 ta0 rfl rfl (fun _ h => List.mem_cons_of_mem _ (List.mem_append_right _ h)) 1 (by decide) rfl (hts _ (List.mem_of_getElem? (i := 1) rfl)) dX6_put_1 (fun v1 ev1 lv1 uv1 => ?_)
  obtain ⟨v2, ev2, tv2⟩ : ∃ v : Int32, (Int8.ofInt (66)).toInt32 = v ∧ v.toInt = 66 := ⟨_, rfl, by decide +kernel⟩
  refine lv_bipush hx hb dX6_put_4 ev2 ?_
  refine lv_icmp_ge (tgt := 21) hx hb dX6_put_6 (by decide) (fun c3 => ?_) (fun c3 => ?_)
  · skip
    have tc3 := nu_le c3
    rw [← hQ]
    exact en_v Z S0 F0_ trivial dX6_put_21
  · skip
    have tc3 := nu_nle c3
    refine lv_aload_n hx hb dX6_put_9 rfl (lv_at hl 0 rfl) ?_
    refine tr_getr Z.1 Z.2.2.2.1 S0.1 S0.2 ha0 ta0 rfl rfl (fun _ h => List.mem_cons_of_mem _ (List.mem_append_right _ h)) 0 (by decide) rfl (hts _ (List.mem_of_getElem? (i := 2) rfl)) dX6_put_10 (fun q4 eq4 hq4 tq4 => ?_)
    have tq4 : τ q4 = (30, 0) := tq4
    refine lv_iload_n hx hb dX6_put_13 rfl (lv_at hl 1 rfl) ?_
    refine tr_aaldr (ra := 108) (rb := 0) Z.1 Z.2.2.2.1 S0.1 S0.2 hq4 tq4 rfl (row_at (w := 8) (by omega)) rfl rfl (by omega) (by omega) dX6_put_14 (fun q5 eq5 hq5 tq5 => ?_)
    have tq5 : τ q5 = (108, 0) := tq5
    refine lv_aload_n hx hb dX6_put_15 rfl (lv_at hl 0 rfl) ?_
    refine tr_geti Z.1 Z.2.2.2.1 S0.1 S0.2 ha0 ta0 rfl rfl (fun _ h => List.mem_cons_of_mem _ (List.mem_append_right _ h)) 1 (by decide) rfl (hts _ (List.mem_of_getElem? (i := 1) rfl)) dX6_put_16 (fun v6 ev6 lv6 uv6 => ?_)
    have wv6 : v6 = v1 := ev6.symm.trans ev1
    have xv6 : v6.toInt = v1.toInt := by rw [wv6]
    refine lv_iload_n hx hb dX6_put_19 rfl (lv_at hl 2 rfl) ?_
    refine tr_iast Z.1 Z.2.2.2.1 S0.1 S0.2 hq5 tq5 rfl (by omega) (by omega) (by have := fb_rng a2; omega) (by have := fb_rng a2; omega) dX6_put_20 (fun E7 H8 k9 W7 I7 P7 => ?_)
    have S7 : Now D TB cy (va_A (va_pl L E) sz) s L τ E7 H8 k9 := ⟨W7, I7⟩
    have F7 : Fr L τ (inW [(108, 0)]) E E7 := Fr.set F0_ P7 tq5 rfl
    rw [← hQ]
    exact en_v Z S7 F7 trivial dX6_put_21

set_option maxHeartbeats 4000000 in
set_option maxRecDepth 100000 in
theorem k_X6_put_v1_0 (l : Launch) (D : va_G) (cy : Nat → ClassId) {L : List Nat} {τ : Nat → Ro} {E : Ec} (hI : Inv TB cy L τ E) {a0 : Nat} (ha0 : a0 ∈ L) (ta0 : τ a0 = (5, 1)) (a1 : Int32) (la1 : 0 ≤ a1.toInt) (ua1 : a1.toInt ≤ 0) (a2 : Int32) (la2 : 0 ≤ a2.toInt) (ua2 : a2.toInt ≤ 3) : CtV l yX6_put wsX6_put { frames := 0, cells := 0, slots := 0, locals := 0 } D TB cy L τ E [.ref a0, .int a1, .int a2] (inW [(100, 1)]) (fun E' => True) := by
  intro sz
  refine sta (cc := cX6_put) (maxL := 3) hI (by decide) rfl (Nat.le_of_ble_eq_true rfl) (fun p e s m args below meth c ls hsz Z S0 hl => ?_)
  have hx := Z.1.1
  have hb := Z.1.2.1
  have hts := Z.1.2.2.2.2
  have F0_ : Fr L τ (inW [(100, 1)]) E E := Fr.refl
  have hl : lv_has ls 3 [(0, .ref a0), (1, .int a1), (2, .int a2)] := hl
  generalize hQ : MQ below _ args s 0 0 _ = QQ
  refine lv_aload_n hx hb dX6_put_0 rfl (lv_at hl 0 rfl) ?_
  refine tr_geti Z.1 Z.2.2.2.1 S0.1 S0.2 ha0 ta0 rfl rfl (fun _ h => List.mem_cons_of_mem _ (List.mem_append_right _ h)) 1 (by decide) rfl (hts _ (List.mem_of_getElem? (i := 1) rfl)) dX6_put_1 (fun v1 ev1 lv1 uv1 => ?_)
  obtain ⟨v2, ev2, tv2⟩ : ∃ v : Int32, (Int8.ofInt (66)).toInt32 = v ∧ v.toInt = 66 := ⟨_, rfl, by decide +kernel⟩
  refine lv_bipush hx hb dX6_put_4 ev2 ?_
  refine lv_icmp_ge (tgt := 21) hx hb dX6_put_6 (by decide) (fun c3 => ?_) (fun c3 => ?_)
  · skip
    have tc3 := nu_le c3
    rw [← hQ]
    exact en_v Z S0 F0_ trivial dX6_put_21
  · skip
    have tc3 := nu_nle c3
    refine lv_aload_n hx hb dX6_put_9 rfl (lv_at hl 0 rfl) ?_
    refine tr_getr Z.1 Z.2.2.2.1 S0.1 S0.2 ha0 ta0 rfl rfl (fun _ h => List.mem_cons_of_mem _ (List.mem_append_right _ h)) 0 (by decide) rfl (hts _ (List.mem_of_getElem? (i := 2) rfl)) dX6_put_10 (fun q4 eq4 hq4 tq4 => ?_)
    have tq4 : τ q4 = (30, 1) := tq4
    refine lv_iload_n hx hb dX6_put_13 rfl (lv_at hl 1 rfl) ?_
    refine tr_aaldr (ra := 100) (rb := 1) Z.1 Z.2.2.2.1 S0.1 S0.2 hq4 tq4 rfl (row_at (w := 0) (by omega)) rfl rfl (by omega) (by omega) dX6_put_14 (fun q5 eq5 hq5 tq5 => ?_)
    have tq5 : τ q5 = (100, 1) := tq5
    refine lv_aload_n hx hb dX6_put_15 rfl (lv_at hl 0 rfl) ?_
    refine tr_geti Z.1 Z.2.2.2.1 S0.1 S0.2 ha0 ta0 rfl rfl (fun _ h => List.mem_cons_of_mem _ (List.mem_append_right _ h)) 1 (by decide) rfl (hts _ (List.mem_of_getElem? (i := 1) rfl)) dX6_put_16 (fun v6 ev6 lv6 uv6 => ?_)
    have wv6 : v6 = v1 := ev6.symm.trans ev1
    have xv6 : v6.toInt = v1.toInt := by rw [wv6]
    refine lv_iload_n hx hb dX6_put_19 rfl (lv_at hl 2 rfl) ?_
    refine tr_iast Z.1 Z.2.2.2.1 S0.1 S0.2 hq5 tq5 rfl (by omega) (by omega) (by omega) (by omega) dX6_put_20 (fun E7 H8 k9 W7 I7 P7 => ?_)
    have S7 : Now D TB cy (va_A (va_pl L E) sz) s L τ E7 H8 k9 := ⟨W7, I7⟩
    have F7 : Fr L τ (inW [(100, 1)]) E E7 := Fr.set F0_ P7 tq5 rfl
    rw [← hQ]
    exact en_v Z S7 F7 trivial dX6_put_21

set_option maxHeartbeats 4000000 in
set_option maxRecDepth 100000 in
theorem k_X6_put_v1_4 (l : Launch) (D : va_G) (cy : Nat → ClassId) {L : List Nat} {τ : Nat → Ro} {E : Ec} (hI : Inv TB cy L τ E) {a0 : Nat} (ha0 : a0 ∈ L) (ta0 : τ a0 = (5, 1)) (a1 : Int32) (la1 : 4 ≤ a1.toInt) (ua1 : a1.toInt ≤ 4) (a2 : Int32) : CtV l yX6_put wsX6_put { frames := 0, cells := 0, slots := 0, locals := 0 } D TB cy L τ E [.ref a0, .int a1, .int a2] (inW [(104, 1)]) (fun E' => True) := by
  intro sz
  refine sta (cc := cX6_put) (maxL := 3) hI (by decide) rfl (Nat.le_of_ble_eq_true rfl) (fun p e s m args below meth c ls hsz Z S0 hl => ?_)
  have hx := Z.1.1
  have hb := Z.1.2.1
  have hts := Z.1.2.2.2.2
  have F0_ : Fr L τ (inW [(104, 1)]) E E := Fr.refl
  have hl : lv_has ls 3 [(0, .ref a0), (1, .int a1), (2, .int a2)] := hl
  generalize hQ : MQ below _ args s 0 0 _ = QQ
  refine lv_aload_n hx hb dX6_put_0 rfl (lv_at hl 0 rfl) ?_
  refine tr_geti Z.1 Z.2.2.2.1 S0.1 S0.2 ha0 ta0 rfl rfl (fun _ h => List.mem_cons_of_mem _ (List.mem_append_right _ h)) 1 (by decide) rfl (hts _ (List.mem_of_getElem? (i := 1) rfl)) dX6_put_1 (fun v1 ev1 lv1 uv1 => ?_)
  obtain ⟨v2, ev2, tv2⟩ : ∃ v : Int32, (Int8.ofInt (66)).toInt32 = v ∧ v.toInt = 66 := ⟨_, rfl, by decide +kernel⟩
  refine lv_bipush hx hb dX6_put_4 ev2 ?_
  refine lv_icmp_ge (tgt := 21) hx hb dX6_put_6 (by decide) (fun c3 => ?_) (fun c3 => ?_)
  · skip
    have tc3 := nu_le c3
    rw [← hQ]
    exact en_v Z S0 F0_ trivial dX6_put_21
  · skip
    have tc3 := nu_nle c3
    refine lv_aload_n hx hb dX6_put_9 rfl (lv_at hl 0 rfl) ?_
    refine tr_getr Z.1 Z.2.2.2.1 S0.1 S0.2 ha0 ta0 rfl rfl (fun _ h => List.mem_cons_of_mem _ (List.mem_append_right _ h)) 0 (by decide) rfl (hts _ (List.mem_of_getElem? (i := 2) rfl)) dX6_put_10 (fun q4 eq4 hq4 tq4 => ?_)
    have tq4 : τ q4 = (30, 1) := tq4
    refine lv_iload_n hx hb dX6_put_13 rfl (lv_at hl 1 rfl) ?_
    refine tr_aaldr (ra := 104) (rb := 1) Z.1 Z.2.2.2.1 S0.1 S0.2 hq4 tq4 rfl (row_at (w := 4) (by omega)) rfl rfl (by omega) (by omega) dX6_put_14 (fun q5 eq5 hq5 tq5 => ?_)
    have tq5 : τ q5 = (104, 1) := tq5
    refine lv_aload_n hx hb dX6_put_15 rfl (lv_at hl 0 rfl) ?_
    refine tr_geti Z.1 Z.2.2.2.1 S0.1 S0.2 ha0 ta0 rfl rfl (fun _ h => List.mem_cons_of_mem _ (List.mem_append_right _ h)) 1 (by decide) rfl (hts _ (List.mem_of_getElem? (i := 1) rfl)) dX6_put_16 (fun v6 ev6 lv6 uv6 => ?_)
    have wv6 : v6 = v1 := ev6.symm.trans ev1
    have xv6 : v6.toInt = v1.toInt := by rw [wv6]
    refine lv_iload_n hx hb dX6_put_19 rfl (lv_at hl 2 rfl) ?_
    refine tr_iast Z.1 Z.2.2.2.1 S0.1 S0.2 hq5 tq5 rfl (by omega) (by omega) (by have := fb_rng a2; omega) (by have := fb_rng a2; omega) dX6_put_20 (fun E7 H8 k9 W7 I7 P7 => ?_)
    have S7 : Now D TB cy (va_A (va_pl L E) sz) s L τ E7 H8 k9 := ⟨W7, I7⟩
    have F7 : Fr L τ (inW [(104, 1)]) E E7 := Fr.set F0_ P7 tq5 rfl
    rw [← hQ]
    exact en_v Z S7 F7 trivial dX6_put_21

set_option maxHeartbeats 4000000 in
set_option maxRecDepth 100000 in
theorem k_X6_put_v1_7 (l : Launch) (D : va_G) (cy : Nat → ClassId) {L : List Nat} {τ : Nat → Ro} {E : Ec} (hI : Inv TB cy L τ E) {a0 : Nat} (ha0 : a0 ∈ L) (ta0 : τ a0 = (5, 1)) (a1 : Int32) (la1 : 7 ≤ a1.toInt) (ua1 : a1.toInt ≤ 7) (a2 : Int32) : CtV l yX6_put wsX6_put { frames := 0, cells := 0, slots := 0, locals := 0 } D TB cy L τ E [.ref a0, .int a1, .int a2] (inW [(107, 1)]) (fun E' => True) := by
  intro sz
  refine sta (cc := cX6_put) (maxL := 3) hI (by decide) rfl (Nat.le_of_ble_eq_true rfl) (fun p e s m args below meth c ls hsz Z S0 hl => ?_)
  have hx := Z.1.1
  have hb := Z.1.2.1
  have hts := Z.1.2.2.2.2
  have F0_ : Fr L τ (inW [(107, 1)]) E E := Fr.refl
  have hl : lv_has ls 3 [(0, .ref a0), (1, .int a1), (2, .int a2)] := hl
  generalize hQ : MQ below _ args s 0 0 _ = QQ
  refine lv_aload_n hx hb dX6_put_0 rfl (lv_at hl 0 rfl) ?_
  refine tr_geti Z.1 Z.2.2.2.1 S0.1 S0.2 ha0 ta0 rfl rfl (fun _ h => List.mem_cons_of_mem _ (List.mem_append_right _ h)) 1 (by decide) rfl (hts _ (List.mem_of_getElem? (i := 1) rfl)) dX6_put_1 (fun v1 ev1 lv1 uv1 => ?_)
  obtain ⟨v2, ev2, tv2⟩ : ∃ v : Int32, (Int8.ofInt (66)).toInt32 = v ∧ v.toInt = 66 := ⟨_, rfl, by decide +kernel⟩
  refine lv_bipush hx hb dX6_put_4 ev2 ?_
  refine lv_icmp_ge (tgt := 21) hx hb dX6_put_6 (by decide) (fun c3 => ?_) (fun c3 => ?_)
  · skip
    have tc3 := nu_le c3
    rw [← hQ]
    exact en_v Z S0 F0_ trivial dX6_put_21
  · skip
    have tc3 := nu_nle c3
    refine lv_aload_n hx hb dX6_put_9 rfl (lv_at hl 0 rfl) ?_
    refine tr_getr Z.1 Z.2.2.2.1 S0.1 S0.2 ha0 ta0 rfl rfl (fun _ h => List.mem_cons_of_mem _ (List.mem_append_right _ h)) 0 (by decide) rfl (hts _ (List.mem_of_getElem? (i := 2) rfl)) dX6_put_10 (fun q4 eq4 hq4 tq4 => ?_)
    have tq4 : τ q4 = (30, 1) := tq4
    refine lv_iload_n hx hb dX6_put_13 rfl (lv_at hl 1 rfl) ?_
    refine tr_aaldr (ra := 107) (rb := 1) Z.1 Z.2.2.2.1 S0.1 S0.2 hq4 tq4 rfl (row_at (w := 7) (by omega)) rfl rfl (by omega) (by omega) dX6_put_14 (fun q5 eq5 hq5 tq5 => ?_)
    have tq5 : τ q5 = (107, 1) := tq5
    refine lv_aload_n hx hb dX6_put_15 rfl (lv_at hl 0 rfl) ?_
    refine tr_geti Z.1 Z.2.2.2.1 S0.1 S0.2 ha0 ta0 rfl rfl (fun _ h => List.mem_cons_of_mem _ (List.mem_append_right _ h)) 1 (by decide) rfl (hts _ (List.mem_of_getElem? (i := 1) rfl)) dX6_put_16 (fun v6 ev6 lv6 uv6 => ?_)
    have wv6 : v6 = v1 := ev6.symm.trans ev1
    have xv6 : v6.toInt = v1.toInt := by rw [wv6]
    refine lv_iload_n hx hb dX6_put_19 rfl (lv_at hl 2 rfl) ?_
    refine tr_iast Z.1 Z.2.2.2.1 S0.1 S0.2 hq5 tq5 rfl (by omega) (by omega) (by have := fb_rng a2; omega) (by have := fb_rng a2; omega) dX6_put_20 (fun E7 H8 k9 W7 I7 P7 => ?_)
    have S7 : Now D TB cy (va_A (va_pl L E) sz) s L τ E7 H8 k9 := ⟨W7, I7⟩
    have F7 : Fr L τ (inW [(107, 1)]) E E7 := Fr.set F0_ P7 tq5 rfl
    rw [← hQ]
    exact en_v Z S7 F7 trivial dX6_put_21

set_option maxHeartbeats 4000000 in
set_option maxRecDepth 100000 in
theorem k_X6_put_v1_8 (l : Launch) (D : va_G) (cy : Nat → ClassId) {L : List Nat} {τ : Nat → Ro} {E : Ec} (hI : Inv TB cy L τ E) {a0 : Nat} (ha0 : a0 ∈ L) (ta0 : τ a0 = (5, 1)) (a1 : Int32) (la1 : 8 ≤ a1.toInt) (ua1 : a1.toInt ≤ 8) (a2 : Int32) : CtV l yX6_put wsX6_put { frames := 0, cells := 0, slots := 0, locals := 0 } D TB cy L τ E [.ref a0, .int a1, .int a2] (inW [(108, 1)]) (fun E' => True) := by
  intro sz
  refine sta (cc := cX6_put) (maxL := 3) hI (by decide) rfl (Nat.le_of_ble_eq_true rfl) (fun p e s m args below meth c ls hsz Z S0 hl => ?_)
  have hx := Z.1.1
  have hb := Z.1.2.1
  have hts := Z.1.2.2.2.2
  have F0_ : Fr L τ (inW [(108, 1)]) E E := Fr.refl
  have hl : lv_has ls 3 [(0, .ref a0), (1, .int a1), (2, .int a2)] := hl
  generalize hQ : MQ below _ args s 0 0 _ = QQ
  refine lv_aload_n hx hb dX6_put_0 rfl (lv_at hl 0 rfl) ?_
  refine tr_geti Z.1 Z.2.2.2.1 S0.1 S0.2 ha0 ta0 rfl rfl (fun _ h => List.mem_cons_of_mem _ (List.mem_append_right _ h)) 1 (by decide) rfl (hts _ (List.mem_of_getElem? (i := 1) rfl)) dX6_put_1 (fun v1 ev1 lv1 uv1 => ?_)
  obtain ⟨v2, ev2, tv2⟩ : ∃ v : Int32, (Int8.ofInt (66)).toInt32 = v ∧ v.toInt = 66 := ⟨_, rfl, by decide +kernel⟩
  refine lv_bipush hx hb dX6_put_4 ev2 ?_
  refine lv_icmp_ge (tgt := 21) hx hb dX6_put_6 (by decide) (fun c3 => ?_) (fun c3 => ?_)
  · skip
    have tc3 := nu_le c3
    rw [← hQ]
    exact en_v Z S0 F0_ trivial dX6_put_21
  · skip
    have tc3 := nu_nle c3
    refine lv_aload_n hx hb dX6_put_9 rfl (lv_at hl 0 rfl) ?_
    refine tr_getr Z.1 Z.2.2.2.1 S0.1 S0.2 ha0 ta0 rfl rfl (fun _ h => List.mem_cons_of_mem _ (List.mem_append_right _ h)) 0 (by decide) rfl (hts _ (List.mem_of_getElem? (i := 2) rfl)) dX6_put_10 (fun q4 eq4 hq4 tq4 => ?_)
    have tq4 : τ q4 = (30, 1) := tq4
    refine lv_iload_n hx hb dX6_put_13 rfl (lv_at hl 1 rfl) ?_
    refine tr_aaldr (ra := 108) (rb := 1) Z.1 Z.2.2.2.1 S0.1 S0.2 hq4 tq4 rfl (row_at (w := 8) (by omega)) rfl rfl (by omega) (by omega) dX6_put_14 (fun q5 eq5 hq5 tq5 => ?_)
    have tq5 : τ q5 = (108, 1) := tq5
    refine lv_aload_n hx hb dX6_put_15 rfl (lv_at hl 0 rfl) ?_
    refine tr_geti Z.1 Z.2.2.2.1 S0.1 S0.2 ha0 ta0 rfl rfl (fun _ h => List.mem_cons_of_mem _ (List.mem_append_right _ h)) 1 (by decide) rfl (hts _ (List.mem_of_getElem? (i := 1) rfl)) dX6_put_16 (fun v6 ev6 lv6 uv6 => ?_)
    have wv6 : v6 = v1 := ev6.symm.trans ev1
    have xv6 : v6.toInt = v1.toInt := by rw [wv6]
    refine lv_iload_n hx hb dX6_put_19 rfl (lv_at hl 2 rfl) ?_
    refine tr_iast Z.1 Z.2.2.2.1 S0.1 S0.2 hq5 tq5 rfl (by omega) (by omega) (by have := fb_rng a2; omega) (by have := fb_rng a2; omega) dX6_put_20 (fun E7 H8 k9 W7 I7 P7 => ?_)
    have S7 : Now D TB cy (va_A (va_pl L E) sz) s L τ E7 H8 k9 := ⟨W7, I7⟩
    have F7 : Fr L τ (inW [(108, 1)]) E E7 := Fr.set F0_ P7 tq5 rfl
    rw [← hQ]
    exact en_v Z S7 F7 trivial dX6_put_21

set_option maxRecDepth 20000 in
theorem ggX6_add_X9_share : GoodIn wsX6_add wsX9_share := goodIn_r _ [10] (by decide +kernel) (by decide +kernel)
set_option maxRecDepth 20000 in
theorem gX6_add_X9_share_n65 : GoodIn wsX6_add (wsX9_share) := ggX6_add_X9_share
theorem dX6_add_0 : decode cX6_add 0 = .ok (.aload_n 0, 1) := by decide +kernel
theorem dX6_add_1 : decode cX6_add 1 = .ok (.getfield 16, 3) := by decide +kernel
theorem dX6_add_4 : decode cX6_add 4 = .ok (.bipush 66, 2) := by decide +kernel
theorem dX6_add_6 : decode cX6_add 6 = .ok (.if_icmp .lt 4, 3) := by decide +kernel
theorem dX6_add_9 : decode cX6_add 9 = .ok (.return_, 1) := by decide +kernel
theorem dX6_add_10 : decode cX6_add 10 = .ok (.aload_n 1, 1) := by decide +kernel
theorem dX6_add_11 : decode cX6_add 11 = .ok (.getfield 91, 3) := by decide +kernel
theorem dX6_add_14 : decode cX6_add 14 = .ok (.aload_n 0, 1) := by decide +kernel
theorem dX6_add_15 : decode cX6_add 15 = .ok (.getfield 20, 3) := by decide +kernel
theorem dX6_add_18 : decode cX6_add 18 = .ok (.aload_n 0, 1) := by decide +kernel
theorem dX6_add_19 : decode cX6_add 19 = .ok (.getfield 16, 3) := by decide +kernel
theorem dX6_add_22 : decode cX6_add 22 = .ok (.invokestatic 65, 3) := by decide +kernel
theorem dX6_add_25 : decode cX6_add 25 = .ok (.istore_n 3, 1) := by decide +kernel
theorem dX6_add_26 : decode cX6_add 26 = .ok (.aload_n 0, 1) := by decide +kernel
theorem dX6_add_27 : decode cX6_add 27 = .ok (.dup, 1) := by decide +kernel
theorem dX6_add_28 : decode cX6_add 28 = .ok (.getfield 23, 3) := by decide +kernel
theorem dX6_add_31 : decode cX6_add 31 = .ok (.iload_n 3, 1) := by decide +kernel
theorem dX6_add_32 : decode cX6_add 32 = .ok (.iadd, 1) := by decide +kernel
theorem dX6_add_33 : decode cX6_add 33 = .ok (.putfield 23, 3) := by decide +kernel
theorem dX6_add_36 : decode cX6_add 36 = .ok (.aload_n 0, 1) := by decide +kernel
theorem dX6_add_37 : decode cX6_add 37 = .ok (.getfield 13, 3) := by decide +kernel
theorem dX6_add_40 : decode cX6_add 40 = .ok (.iconst 1, 1) := by decide +kernel
theorem dX6_add_41 : decode cX6_add 41 = .ok (.aaload, 1) := by decide +kernel
theorem dX6_add_42 : decode cX6_add 42 = .ok (.aload_n 0, 1) := by decide +kernel
theorem dX6_add_43 : decode cX6_add 43 = .ok (.getfield 16, 3) := by decide +kernel
theorem dX6_add_46 : decode cX6_add 46 = .ok (.iload_n 3, 1) := by decide +kernel
theorem dX6_add_47 : decode cX6_add 47 = .ok (.iastore, 1) := by decide +kernel
theorem dX6_add_48 : decode cX6_add 48 = .ok (.aload_n 0, 1) := by decide +kernel
theorem dX6_add_49 : decode cX6_add 49 = .ok (.getfield 13, 3) := by decide +kernel
theorem dX6_add_52 : decode cX6_add 52 = .ok (.iconst 2, 1) := by decide +kernel
theorem dX6_add_53 : decode cX6_add 53 = .ok (.aaload, 1) := by decide +kernel
theorem dX6_add_54 : decode cX6_add 54 = .ok (.aload_n 0, 1) := by decide +kernel
theorem dX6_add_55 : decode cX6_add 55 = .ok (.getfield 16, 3) := by decide +kernel
theorem dX6_add_58 : decode cX6_add 58 = .ok (.aload_n 0, 1) := by decide +kernel
theorem dX6_add_59 : decode cX6_add 59 = .ok (.getfield 23, 3) := by decide +kernel
theorem dX6_add_62 : decode cX6_add 62 = .ok (.iastore, 1) := by decide +kernel
theorem dX6_add_63 : decode cX6_add 63 = .ok (.aload_n 0, 1) := by decide +kernel
theorem dX6_add_64 : decode cX6_add 64 = .ok (.getfield 13, 3) := by decide +kernel
theorem dX6_add_67 : decode cX6_add 67 = .ok (.iconst 3, 1) := by decide +kernel
theorem dX6_add_68 : decode cX6_add 68 = .ok (.aaload, 1) := by decide +kernel
theorem dX6_add_69 : decode cX6_add 69 = .ok (.aload_n 0, 1) := by decide +kernel
theorem dX6_add_70 : decode cX6_add 70 = .ok (.getfield 16, 3) := by decide +kernel
theorem dX6_add_73 : decode cX6_add 73 = .ok (.iload_n 2, 1) := by decide +kernel
theorem dX6_add_74 : decode cX6_add 74 = .ok (.iastore, 1) := by decide +kernel
theorem dX6_add_75 : decode cX6_add 75 = .ok (.aload_n 0, 1) := by decide +kernel
theorem dX6_add_76 : decode cX6_add 76 = .ok (.getfield 13, 3) := by decide +kernel
theorem dX6_add_79 : decode cX6_add 79 = .ok (.iconst 5, 1) := by decide +kernel
theorem dX6_add_80 : decode cX6_add 80 = .ok (.aaload, 1) := by decide +kernel
theorem dX6_add_81 : decode cX6_add 81 = .ok (.aload_n 0, 1) := by decide +kernel
theorem dX6_add_82 : decode cX6_add 82 = .ok (.getfield 16, 3) := by decide +kernel
theorem dX6_add_85 : decode cX6_add 85 = .ok (.aload_n 0, 1) := by decide +kernel
theorem dX6_add_86 : decode cX6_add 86 = .ok (.getfield 26, 3) := by decide +kernel
theorem dX6_add_89 : decode cX6_add 89 = .ok (.iastore, 1) := by decide +kernel
theorem dX6_add_90 : decode cX6_add 90 = .ok (.aload_n 0, 1) := by decide +kernel
theorem dX6_add_91 : decode cX6_add 91 = .ok (.getfield 13, 3) := by decide +kernel
theorem dX6_add_94 : decode cX6_add 94 = .ok (.bipush 9, 2) := by decide +kernel
theorem dX6_add_96 : decode cX6_add 96 = .ok (.aaload, 1) := by decide +kernel
theorem dX6_add_97 : decode cX6_add 97 = .ok (.aload_n 0, 1) := by decide +kernel
theorem dX6_add_98 : decode cX6_add 98 = .ok (.getfield 16, 3) := by decide +kernel
theorem dX6_add_101 : decode cX6_add 101 = .ok (.aload_n 1, 1) := by decide +kernel
theorem dX6_add_102 : decode cX6_add 102 = .ok (.getfield 82, 3) := by decide +kernel
theorem dX6_add_105 : decode cX6_add 105 = .ok (.iastore, 1) := by decide +kernel
theorem dX6_add_106 : decode cX6_add 106 = .ok (.aload_n 0, 1) := by decide +kernel
theorem dX6_add_107 : decode cX6_add 107 = .ok (.getfield 13, 3) := by decide +kernel
theorem dX6_add_110 : decode cX6_add 110 = .ok (.bipush 10, 2) := by decide +kernel
theorem dX6_add_112 : decode cX6_add 112 = .ok (.aaload, 1) := by decide +kernel
theorem dX6_add_113 : decode cX6_add 113 = .ok (.aload_n 0, 1) := by decide +kernel
theorem dX6_add_114 : decode cX6_add 114 = .ok (.getfield 16, 3) := by decide +kernel
theorem dX6_add_117 : decode cX6_add 117 = .ok (.aload_n 0, 1) := by decide +kernel
theorem dX6_add_118 : decode cX6_add 118 = .ok (.getfield 20, 3) := by decide +kernel
theorem dX6_add_121 : decode cX6_add 121 = .ok (.iastore, 1) := by decide +kernel
theorem dX6_add_122 : decode cX6_add 122 = .ok (.aload_n 0, 1) := by decide +kernel
theorem dX6_add_123 : decode cX6_add 123 = .ok (.dup, 1) := by decide +kernel
theorem dX6_add_124 : decode cX6_add 124 = .ok (.getfield 26, 3) := by decide +kernel
theorem dX6_add_127 : decode cX6_add 127 = .ok (.iload_n 2, 1) := by decide +kernel
theorem dX6_add_128 : decode cX6_add 128 = .ok (.iadd, 1) := by decide +kernel
theorem dX6_add_129 : decode cX6_add 129 = .ok (.putfield 26, 3) := by decide +kernel
theorem dX6_add_132 : decode cX6_add 132 = .ok (.aload_n 0, 1) := by decide +kernel
theorem dX6_add_133 : decode cX6_add 133 = .ok (.dup, 1) := by decide +kernel
theorem dX6_add_134 : decode cX6_add 134 = .ok (.getfield 16, 3) := by decide +kernel
theorem dX6_add_137 : decode cX6_add 137 = .ok (.iconst 1, 1) := by decide +kernel
theorem dX6_add_138 : decode cX6_add 138 = .ok (.iadd, 1) := by decide +kernel
theorem dX6_add_139 : decode cX6_add 139 = .ok (.putfield 16, 3) := by decide +kernel
theorem dX6_add_142 : decode cX6_add 142 = .ok (.return_, 1) := by decide +kernel
set_option maxHeartbeats 4000000 in
set_option maxRecDepth 100000 in
theorem k_X6_add_v0 (l : Launch) (D : va_G) (cy : Nat → ClassId) {L : List Nat} {τ : Nat → Ro} {E : Ec} (hI : Inv TB cy L τ E) {a0 : Nat} (ha0 : a0 ∈ L) (ta0 : τ a0 = (5, 0)) {a1 : Nat} (ha1 : a1 ∈ L) (ta1 : τ a1 = (1, 0)) (a2 : Int32) : CtV l yX6_add wsX6_add { frames := 1, cells := 0, slots := 0, locals := 22 } D TB cy L τ E [.ref a0, .ref a1, .int a2] (inW [(5, 0), (100, 0), (101, 0), (102, 0), (103, 0), (104, 0), (105, 0), (106, 0), (107, 0), (108, 0), (109, 0), (110, 0), (111, 0), (112, 0)]) (fun E' => True) := by
  intro sz
  refine sta (cc := cX6_add) (maxL := 4) hI (by decide) rfl (Nat.le_of_ble_eq_true rfl) (fun p e s m args below meth c ls hsz Z S0 hl => ?_)
  have hx := Z.1.1
  have hb := Z.1.2.1
  have hts := Z.1.2.2.2.2
  have F0_ : Fr L τ (inW [(5, 0), (100, 0), (101, 0), (102, 0), (103, 0), (104, 0), (105, 0), (106, 0), (107, 0), (108, 0), (109, 0), (110, 0), (111, 0), (112, 0)]) E E := Fr.refl
  have hl : lv_has ls 4 [(0, .ref a0), (1, .ref a1), (2, .int a2)] := hl
  generalize hQ : MQ below _ args s 0 0 _ = QQ
  refine lv_aload_n hx hb dX6_add_0 rfl (lv_at hl 0 rfl) ?_
  refine tr_geti Z.1 Z.2.2.2.1 S0.1 S0.2 ha0 ta0 rfl rfl (fun _ h => List.mem_cons_of_mem _ (List.mem_append_left _ (List.mem_append_right _ h))) 1 (by decide) rfl (hts _ (List.mem_of_getElem? (i := 1) rfl)) dX6_add_1 (fun v1 ev1 lv1 uv1 => ?_)
  obtain ⟨v2, ev2, tv2⟩ : ∃ v : Int32, (Int8.ofInt (66)).toInt32 = v ∧ v.toInt = 66 := ⟨_, rfl, by decide +kernel⟩
  refine lv_bipush hx hb dX6_add_4 ev2 ?_
  refine lv_icmp_lt (tgt := 10) hx hb dX6_add_6 (by decide) (fun c3 => ?_) (fun c3 => ?_)
  · skip
    have tc3 := nu_lt c3
    refine lv_aload_n hx hb dX6_add_10 rfl (lv_at hl 1 rfl) ?_
    refine tr_geti Z.1 Z.2.2.2.1 S0.1 S0.2 ha1 ta1 rfl rfl (fun _ h => List.mem_cons_of_mem _ (List.mem_append_right _ h)) 0 (by decide) rfl (hts _ (List.mem_of_getElem? (i := 2) rfl)) dX6_add_11 (fun v4 ev4 lv4 uv4 => ?_)
    refine lv_aload_n hx hb dX6_add_14 rfl (lv_at hl 0 rfl) ?_
    refine tr_geti Z.1 Z.2.2.2.1 S0.1 S0.2 ha0 ta0 rfl rfl (fun _ h => List.mem_cons_of_mem _ (List.mem_append_left _ (List.mem_append_right _ h))) 2 (by decide) rfl (hts _ (List.mem_of_getElem? (i := 3) rfl)) dX6_add_15 (fun v5 ev5 lv5 uv5 => ?_)
    refine lv_aload_n hx hb dX6_add_18 rfl (lv_at hl 0 rfl) ?_
    refine tr_geti Z.1 Z.2.2.2.1 S0.1 S0.2 ha0 ta0 rfl rfl (fun _ h => List.mem_cons_of_mem _ (List.mem_append_left _ (List.mem_append_right _ h))) 1 (by decide) rfl (hts _ (List.mem_of_getElem? (i := 1) rfl)) dX6_add_19 (fun v6 ev6 lv6 uv6 => ?_)
    have wv6 : v6 = v1 := ev6.symm.trans ev1
    have xv6 : v6.toInt = v1.toInt := by rw [wv6]
    refine tc_sni Z.1 Z.2.2.2.1 Z.2.2.2.2.1 Z.2.2.2.2.2 S0.1 (k_X9_share l D cy S0.2 v4 v5 v6) ⟨va_cnB (host := RX9) 3 hts gX6_add_X9_share_n65 rfl rfl rfl (Z.2.2.2.2.1 _ (by decide +kernel)) (hts _ (List.mem_of_getElem? (i := 9) rfl)) (by decide +kernel) ⟨Nat.le_of_ble_eq_true rfl, Nat.le_of_ble_eq_true rfl⟩, hts _ (List.mem_of_getElem? (i := 8) rfl), trivial⟩ rfl hl.1 rfl (Nat.le_of_ble_eq_true rfl) dX6_add_22 ⟨Nat.zero_le _, Nat.zero_le _⟩ (fun v10 E7 H8 k9 W7 I7 G7 p7 => ?_)
    have q7 := p7
    have q7 := q7.symm
    subst q7
    have S7 : Now D TB cy (va_A (va_pl L E) sz) s L τ E H8 k9 := ⟨W7, I7⟩
    refine lv_istore_n (lv' := [(3, .int v10), (0, .ref a0), (1, .ref a1), (2, .int a2)]) hx hb dX6_add_25 rfl hl (by decide) rfl (fun l11 hl12 => ?_)
    refine lv_aload_n hx hb dX6_add_26 rfl (lv_at hl12 1 rfl) ?_
    refine lv_dup hx hb dX6_add_27 rfl ?_
    refine tr_geti Z.1 Z.2.2.2.1 S7.1 S7.2 ha0 ta0 rfl rfl (fun _ h => List.mem_cons_of_mem _ (List.mem_append_left _ (List.mem_append_right _ h))) 3 (by decide) rfl (hts _ (List.mem_of_getElem? (i := 4) rfl)) dX6_add_28 (fun v13 ev13 lv13 uv13 => ?_)
    refine lv_iload_n hx hb dX6_add_31 rfl (lv_at hl12 0 rfl) ?_
    refine lv_iadd hx hb dX6_add_32 ?_
    refine lv_topi (fun v14 ev14 => ?_)
    refine tr_puti Z.1 Z.2.2.2.1 S7.1 S7.2 ha0 ta0 rfl rfl (fun _ h => List.mem_cons_of_mem _ (List.mem_append_left _ (List.mem_append_right _ h))) tyX6_ok nmX6 3 (by decide) rfl rfl rfl (hts _ (List.mem_of_getElem? (i := 4) rfl)) dX6_add_33 (by have := fb_rng v14; omega) (by have := fb_rng v14; omega) (fun E15 H16 k17 W15 I15 P15 => ?_)
    have S15 : Now D TB cy (va_A (va_pl L E) sz) s L τ E15 H16 k17 := ⟨W15, I15⟩
    have F15 : Fr L τ (inW [(5, 0), (100, 0), (101, 0), (102, 0), (103, 0), (104, 0), (105, 0), (106, 0), (107, 0), (108, 0), (109, 0), (110, 0), (111, 0), (112, 0)]) E E15 := Fr.put F0_ P15 ta0 rfl
    refine lv_aload_n hx hb dX6_add_36 rfl (lv_at hl12 1 rfl) ?_
    refine tr_getr Z.1 Z.2.2.2.1 S15.1 S15.2 ha0 ta0 rfl rfl (fun _ h => List.mem_cons_of_mem _ (List.mem_append_left _ (List.mem_append_right _ h))) 0 (by decide) rfl (hts _ (List.mem_of_getElem? (i := 5) rfl)) dX6_add_37 (fun q18 eq18 hq18 tq18 => ?_)
    have tq18 : τ q18 = (30, 0) := tq18
    obtain ⟨v19, ev19, tv19⟩ : ∃ v : Int32, Int32.ofInt (1) = v ∧ v.toInt = 1 := ⟨_, rfl, by decide +kernel⟩
    refine lv_iconst hx hb dX6_add_40 ev19 ?_
    refine tr_aaldr (ra := 101) (rb := 0) Z.1 Z.2.2.2.1 S15.1 S15.2 hq18 tq18 rfl (row_at (w := 1) (by omega)) rfl rfl (by omega) (by omega) dX6_add_41 (fun q20 eq20 hq20 tq20 => ?_)
    have tq20 : τ q20 = (101, 0) := tq20
    refine lv_aload_n hx hb dX6_add_42 rfl (lv_at hl12 1 rfl) ?_
    refine tr_geti Z.1 Z.2.2.2.1 S15.1 S15.2 ha0 ta0 rfl rfl (fun _ h => List.mem_cons_of_mem _ (List.mem_append_left _ (List.mem_append_right _ h))) 1 (by decide) rfl (hts _ (List.mem_of_getElem? (i := 1) rfl)) dX6_add_43 (fun v21 ev21 lv21 uv21 => ?_)
    have wv21 : v21 = v6 := ev21.symm.trans ((fi_put P15 (Or.inr (by decide))).trans ev6)
    have xv21 : v21.toInt = v6.toInt := by rw [wv21]
    refine lv_iload_n hx hb dX6_add_46 rfl (lv_at hl12 0 rfl) ?_
    refine tr_iast Z.1 Z.2.2.2.1 S15.1 S15.2 hq20 tq20 rfl (by omega) (by omega) (by have := fb_rng v10; omega) (by have := fb_rng v10; omega) dX6_add_47 (fun E22 H23 k24 W22 I22 P22 => ?_)
    have S22 : Now D TB cy (va_A (va_pl L E) sz) s L τ E22 H23 k24 := ⟨W22, I22⟩
    have F22 : Fr L τ (inW [(5, 0), (100, 0), (101, 0), (102, 0), (103, 0), (104, 0), (105, 0), (106, 0), (107, 0), (108, 0), (109, 0), (110, 0), (111, 0), (112, 0)]) E E22 := Fr.set F15 P22 tq20 rfl
    refine lv_aload_n hx hb dX6_add_48 rfl (lv_at hl12 1 rfl) ?_
    refine tr_getr Z.1 Z.2.2.2.1 S22.1 S22.2 ha0 ta0 rfl rfl (fun _ h => List.mem_cons_of_mem _ (List.mem_append_left _ (List.mem_append_right _ h))) 0 (by decide) rfl (hts _ (List.mem_of_getElem? (i := 5) rfl)) dX6_add_49 (fun q25 eq25 hq25 tq25 => ?_)
    have tq25 : τ q25 = (30, 0) := tq25
    have uq25 : q18 = q25 := S22.2.2.2.2 _ hq18 _ hq25 (tq18.trans tq25.symm) (by rw [tq18]; rfl)
    subst uq25
    obtain ⟨v26, ev26, tv26⟩ : ∃ v : Int32, Int32.ofInt (2) = v ∧ v.toInt = 2 := ⟨_, rfl, by decide +kernel⟩
    refine lv_iconst hx hb dX6_add_52 ev26 ?_
    refine tr_aaldr (ra := 102) (rb := 0) Z.1 Z.2.2.2.1 S22.1 S22.2 hq18 tq18 rfl (row_at (w := 2) (by omega)) rfl rfl (by omega) (by omega) dX6_add_53 (fun q27 eq27 hq27 tq27 => ?_)
    have tq27 : τ q27 = (102, 0) := tq27
    refine lv_aload_n hx hb dX6_add_54 rfl (lv_at hl12 1 rfl) ?_
    refine tr_geti Z.1 Z.2.2.2.1 S22.1 S22.2 ha0 ta0 rfl rfl (fun _ h => List.mem_cons_of_mem _ (List.mem_append_left _ (List.mem_append_right _ h))) 1 (by decide) rfl (hts _ (List.mem_of_getElem? (i := 1) rfl)) dX6_add_55 (fun v28 ev28 lv28 uv28 => ?_)
    have wv28 : v28 = v21 := ev28.symm.trans ((fi_set P22 (ne_ro ta0 tq20 (by decide))).trans ev21)
    have xv28 : v28.toInt = v21.toInt := by rw [wv28]
    refine lv_aload_n hx hb dX6_add_58 rfl (lv_at hl12 1 rfl) ?_
    refine tr_geti Z.1 Z.2.2.2.1 S22.1 S22.2 ha0 ta0 rfl rfl (fun _ h => List.mem_cons_of_mem _ (List.mem_append_left _ (List.mem_append_right _ h))) 3 (by decide) rfl (hts _ (List.mem_of_getElem? (i := 4) rfl)) dX6_add_59 (fun v29 ev29 lv29 uv29 => ?_)
    have wv29 : v29 = v14 := ev29.symm.trans ((fi_set P22 (ne_ro ta0 tq20 (by decide))).trans (fi_at P15))
    have xv29 : v29.toInt = v14.toInt := by rw [wv29]
    refine tr_iast Z.1 Z.2.2.2.1 S22.1 S22.2 hq27 tq27 rfl (by omega) (by omega) (by have := fb_rng v29; omega) (by have := fb_rng v29; omega) dX6_add_62 (fun E30 H31 k32 W30 I30 P30 => ?_)
    have S30 : Now D TB cy (va_A (va_pl L E) sz) s L τ E30 H31 k32 := ⟨W30, I30⟩
    have F30 : Fr L τ (inW [(5, 0), (100, 0), (101, 0), (102, 0), (103, 0), (104, 0), (105, 0), (106, 0), (107, 0), (108, 0), (109, 0), (110, 0), (111, 0), (112, 0)]) E E30 := Fr.set F22 P30 tq27 rfl
    refine lv_aload_n hx hb dX6_add_63 rfl (lv_at hl12 1 rfl) ?_
    refine tr_getr Z.1 Z.2.2.2.1 S30.1 S30.2 ha0 ta0 rfl rfl (fun _ h => List.mem_cons_of_mem _ (List.mem_append_left _ (List.mem_append_right _ h))) 0 (by decide) rfl (hts _ (List.mem_of_getElem? (i := 5) rfl)) dX6_add_64 (fun q33 eq33 hq33 tq33 => ?_)
    have tq33 : τ q33 = (30, 0) := tq33
    have uq33 : q18 = q33 := S30.2.2.2.2 _ hq18 _ hq33 (tq18.trans tq33.symm) (by rw [tq18]; rfl)
    subst uq33
    obtain ⟨v34, ev34, tv34⟩ : ∃ v : Int32, Int32.ofInt (3) = v ∧ v.toInt = 3 := ⟨_, rfl, by decide +kernel⟩
    refine lv_iconst hx hb dX6_add_67 ev34 ?_
    refine tr_aaldr (ra := 103) (rb := 0) Z.1 Z.2.2.2.1 S30.1 S30.2 hq18 tq18 rfl (row_at (w := 3) (by omega)) rfl rfl (by omega) (by omega) dX6_add_68 (fun q35 eq35 hq35 tq35 => ?_)
    have tq35 : τ q35 = (103, 0) := tq35
    refine lv_aload_n hx hb dX6_add_69 rfl (lv_at hl12 1 rfl) ?_
    refine tr_geti Z.1 Z.2.2.2.1 S30.1 S30.2 ha0 ta0 rfl rfl (fun _ h => List.mem_cons_of_mem _ (List.mem_append_left _ (List.mem_append_right _ h))) 1 (by decide) rfl (hts _ (List.mem_of_getElem? (i := 1) rfl)) dX6_add_70 (fun v36 ev36 lv36 uv36 => ?_)
    have wv36 : v36 = v28 := ev36.symm.trans ((fi_set P30 (ne_ro ta0 tq27 (by decide))).trans ev28)
    have xv36 : v36.toInt = v28.toInt := by rw [wv36]
    refine lv_iload_n hx hb dX6_add_73 rfl (lv_at hl12 3 rfl) ?_
    refine tr_iast Z.1 Z.2.2.2.1 S30.1 S30.2 hq35 tq35 rfl (by omega) (by omega) (by have := fb_rng a2; omega) (by have := fb_rng a2; omega) dX6_add_74 (fun E37 H38 k39 W37 I37 P37 => ?_)
    have S37 : Now D TB cy (va_A (va_pl L E) sz) s L τ E37 H38 k39 := ⟨W37, I37⟩
    have F37 : Fr L τ (inW [(5, 0), (100, 0), (101, 0), (102, 0), (103, 0), (104, 0), (105, 0), (106, 0), (107, 0), (108, 0), (109, 0), (110, 0), (111, 0), (112, 0)]) E E37 := Fr.set F30 P37 tq35 rfl
    refine lv_aload_n hx hb dX6_add_75 rfl (lv_at hl12 1 rfl) ?_
    refine tr_getr Z.1 Z.2.2.2.1 S37.1 S37.2 ha0 ta0 rfl rfl (fun _ h => List.mem_cons_of_mem _ (List.mem_append_left _ (List.mem_append_right _ h))) 0 (by decide) rfl (hts _ (List.mem_of_getElem? (i := 5) rfl)) dX6_add_76 (fun q40 eq40 hq40 tq40 => ?_)
    have tq40 : τ q40 = (30, 0) := tq40
    have uq40 : q18 = q40 := S37.2.2.2.2 _ hq18 _ hq40 (tq18.trans tq40.symm) (by rw [tq18]; rfl)
    subst uq40
    obtain ⟨v41, ev41, tv41⟩ : ∃ v : Int32, Int32.ofInt (5) = v ∧ v.toInt = 5 := ⟨_, rfl, by decide +kernel⟩
    refine lv_iconst hx hb dX6_add_79 ev41 ?_
    refine tr_aaldr (ra := 105) (rb := 0) Z.1 Z.2.2.2.1 S37.1 S37.2 hq18 tq18 rfl (row_at (w := 5) (by omega)) rfl rfl (by omega) (by omega) dX6_add_80 (fun q42 eq42 hq42 tq42 => ?_)
    have tq42 : τ q42 = (105, 0) := tq42
    refine lv_aload_n hx hb dX6_add_81 rfl (lv_at hl12 1 rfl) ?_
    refine tr_geti Z.1 Z.2.2.2.1 S37.1 S37.2 ha0 ta0 rfl rfl (fun _ h => List.mem_cons_of_mem _ (List.mem_append_left _ (List.mem_append_right _ h))) 1 (by decide) rfl (hts _ (List.mem_of_getElem? (i := 1) rfl)) dX6_add_82 (fun v43 ev43 lv43 uv43 => ?_)
    have wv43 : v43 = v36 := ev43.symm.trans ((fi_set P37 (ne_ro ta0 tq35 (by decide))).trans ev36)
    have xv43 : v43.toInt = v36.toInt := by rw [wv43]
    refine lv_aload_n hx hb dX6_add_85 rfl (lv_at hl12 1 rfl) ?_
    refine tr_geti Z.1 Z.2.2.2.1 S37.1 S37.2 ha0 ta0 rfl rfl (fun _ h => List.mem_cons_of_mem _ (List.mem_append_left _ (List.mem_append_right _ h))) 4 (by decide) rfl (hts _ (List.mem_of_getElem? (i := 6) rfl)) dX6_add_86 (fun v44 ev44 lv44 uv44 => ?_)
    refine tr_iast Z.1 Z.2.2.2.1 S37.1 S37.2 hq42 tq42 rfl (by omega) (by omega) (by have := fb_rng v44; omega) (by have := fb_rng v44; omega) dX6_add_89 (fun E45 H46 k47 W45 I45 P45 => ?_)
    have S45 : Now D TB cy (va_A (va_pl L E) sz) s L τ E45 H46 k47 := ⟨W45, I45⟩
    have F45 : Fr L τ (inW [(5, 0), (100, 0), (101, 0), (102, 0), (103, 0), (104, 0), (105, 0), (106, 0), (107, 0), (108, 0), (109, 0), (110, 0), (111, 0), (112, 0)]) E E45 := Fr.set F37 P45 tq42 rfl
    refine lv_aload_n hx hb dX6_add_90 rfl (lv_at hl12 1 rfl) ?_
    refine tr_getr Z.1 Z.2.2.2.1 S45.1 S45.2 ha0 ta0 rfl rfl (fun _ h => List.mem_cons_of_mem _ (List.mem_append_left _ (List.mem_append_right _ h))) 0 (by decide) rfl (hts _ (List.mem_of_getElem? (i := 5) rfl)) dX6_add_91 (fun q48 eq48 hq48 tq48 => ?_)
    have tq48 : τ q48 = (30, 0) := tq48
    have uq48 : q18 = q48 := S45.2.2.2.2 _ hq18 _ hq48 (tq18.trans tq48.symm) (by rw [tq18]; rfl)
    subst uq48
    obtain ⟨v49, ev49, tv49⟩ : ∃ v : Int32, (Int8.ofInt (9)).toInt32 = v ∧ v.toInt = 9 := ⟨_, rfl, by decide +kernel⟩
    refine lv_bipush hx hb dX6_add_94 ev49 ?_
    refine tr_aaldr (ra := 109) (rb := 0) Z.1 Z.2.2.2.1 S45.1 S45.2 hq18 tq18 rfl (row_at (w := 9) (by omega)) rfl rfl (by omega) (by omega) dX6_add_96 (fun q50 eq50 hq50 tq50 => ?_)
    have tq50 : τ q50 = (109, 0) := tq50
    refine lv_aload_n hx hb dX6_add_97 rfl (lv_at hl12 1 rfl) ?_
    refine tr_geti Z.1 Z.2.2.2.1 S45.1 S45.2 ha0 ta0 rfl rfl (fun _ h => List.mem_cons_of_mem _ (List.mem_append_left _ (List.mem_append_right _ h))) 1 (by decide) rfl (hts _ (List.mem_of_getElem? (i := 1) rfl)) dX6_add_98 (fun v51 ev51 lv51 uv51 => ?_)
    have wv51 : v51 = v43 := ev51.symm.trans ((fi_set P45 (ne_ro ta0 tq42 (by decide))).trans ev43)
    have xv51 : v51.toInt = v43.toInt := by rw [wv51]
    refine lv_aload_n hx hb dX6_add_101 rfl (lv_at hl12 2 rfl) ?_
    refine tr_geti Z.1 Z.2.2.2.1 S45.1 S45.2 ha1 ta1 rfl rfl (fun _ h => List.mem_cons_of_mem _ (List.mem_append_right _ h)) 1 (by decide) rfl (hts _ (List.mem_of_getElem? (i := 7) rfl)) dX6_add_102 (fun v52 ev52 lv52 uv52 => ?_)
    refine tr_iast Z.1 Z.2.2.2.1 S45.1 S45.2 hq50 tq50 rfl (by omega) (by omega) (by have := fb_rng v52; omega) (by have := fb_rng v52; omega) dX6_add_105 (fun E53 H54 k55 W53 I53 P53 => ?_)
    have S53 : Now D TB cy (va_A (va_pl L E) sz) s L τ E53 H54 k55 := ⟨W53, I53⟩
    have F53 : Fr L τ (inW [(5, 0), (100, 0), (101, 0), (102, 0), (103, 0), (104, 0), (105, 0), (106, 0), (107, 0), (108, 0), (109, 0), (110, 0), (111, 0), (112, 0)]) E E53 := Fr.set F45 P53 tq50 rfl
    refine lv_aload_n hx hb dX6_add_106 rfl (lv_at hl12 1 rfl) ?_
    refine tr_getr Z.1 Z.2.2.2.1 S53.1 S53.2 ha0 ta0 rfl rfl (fun _ h => List.mem_cons_of_mem _ (List.mem_append_left _ (List.mem_append_right _ h))) 0 (by decide) rfl (hts _ (List.mem_of_getElem? (i := 5) rfl)) dX6_add_107 (fun q56 eq56 hq56 tq56 => ?_)
    have tq56 : τ q56 = (30, 0) := tq56
    have uq56 : q18 = q56 := S53.2.2.2.2 _ hq18 _ hq56 (tq18.trans tq56.symm) (by rw [tq18]; rfl)
    subst uq56
    obtain ⟨v57, ev57, tv57⟩ : ∃ v : Int32, (Int8.ofInt (10)).toInt32 = v ∧ v.toInt = 10 := ⟨_, rfl, by decide +kernel⟩
    refine lv_bipush hx hb dX6_add_110 ev57 ?_
    refine tr_aaldr (ra := 110) (rb := 0) Z.1 Z.2.2.2.1 S53.1 S53.2 hq18 tq18 rfl (row_at (w := 10) (by omega)) rfl rfl (by omega) (by omega) dX6_add_112 (fun q58 eq58 hq58 tq58 => ?_)
    have tq58 : τ q58 = (110, 0) := tq58
    refine lv_aload_n hx hb dX6_add_113 rfl (lv_at hl12 1 rfl) ?_
    refine tr_geti Z.1 Z.2.2.2.1 S53.1 S53.2 ha0 ta0 rfl rfl (fun _ h => List.mem_cons_of_mem _ (List.mem_append_left _ (List.mem_append_right _ h))) 1 (by decide) rfl (hts _ (List.mem_of_getElem? (i := 1) rfl)) dX6_add_114 (fun v59 ev59 lv59 uv59 => ?_)
    have wv59 : v59 = v51 := ev59.symm.trans ((fi_set P53 (ne_ro ta0 tq50 (by decide))).trans ev51)
    have xv59 : v59.toInt = v51.toInt := by rw [wv59]
    refine lv_aload_n hx hb dX6_add_117 rfl (lv_at hl12 1 rfl) ?_
    refine tr_geti Z.1 Z.2.2.2.1 S53.1 S53.2 ha0 ta0 rfl rfl (fun _ h => List.mem_cons_of_mem _ (List.mem_append_left _ (List.mem_append_right _ h))) 2 (by decide) rfl (hts _ (List.mem_of_getElem? (i := 3) rfl)) dX6_add_118 (fun v60 ev60 lv60 uv60 => ?_)
    have wv60 : v60 = v5 := ev60.symm.trans ((fi_set P53 (ne_ro ta0 tq50 (by decide))).trans ((fi_set P45 (ne_ro ta0 tq42 (by decide))).trans ((fi_set P37 (ne_ro ta0 tq35 (by decide))).trans ((fi_set P30 (ne_ro ta0 tq27 (by decide))).trans ((fi_set P22 (ne_ro ta0 tq20 (by decide))).trans ((fi_put P15 (Or.inr (by decide))).trans ev5))))))
    have xv60 : v60.toInt = v5.toInt := by rw [wv60]
    refine tr_iast Z.1 Z.2.2.2.1 S53.1 S53.2 hq58 tq58 rfl (by omega) (by omega) (by have := fb_rng v60; omega) (by have := fb_rng v60; omega) dX6_add_121 (fun E61 H62 k63 W61 I61 P61 => ?_)
    have S61 : Now D TB cy (va_A (va_pl L E) sz) s L τ E61 H62 k63 := ⟨W61, I61⟩
    have F61 : Fr L τ (inW [(5, 0), (100, 0), (101, 0), (102, 0), (103, 0), (104, 0), (105, 0), (106, 0), (107, 0), (108, 0), (109, 0), (110, 0), (111, 0), (112, 0)]) E E61 := Fr.set F53 P61 tq58 rfl
    refine lv_aload_n hx hb dX6_add_122 rfl (lv_at hl12 1 rfl) ?_
    refine lv_dup hx hb dX6_add_123 rfl ?_
    refine tr_geti Z.1 Z.2.2.2.1 S61.1 S61.2 ha0 ta0 rfl rfl (fun _ h => List.mem_cons_of_mem _ (List.mem_append_left _ (List.mem_append_right _ h))) 4 (by decide) rfl (hts _ (List.mem_of_getElem? (i := 6) rfl)) dX6_add_124 (fun v64 ev64 lv64 uv64 => ?_)
    have wv64 : v64 = v44 := ev64.symm.trans ((fi_set P61 (ne_ro ta0 tq58 (by decide))).trans ((fi_set P53 (ne_ro ta0 tq50 (by decide))).trans ((fi_set P45 (ne_ro ta0 tq42 (by decide))).trans ev44)))
    have xv64 : v64.toInt = v44.toInt := by rw [wv64]
    refine lv_iload_n hx hb dX6_add_127 rfl (lv_at hl12 3 rfl) ?_
    refine lv_iadd hx hb dX6_add_128 ?_
    refine lv_topi (fun v65 ev65 => ?_)
    refine tr_puti Z.1 Z.2.2.2.1 S61.1 S61.2 ha0 ta0 rfl rfl (fun _ h => List.mem_cons_of_mem _ (List.mem_append_left _ (List.mem_append_right _ h))) tyX6_ok nmX6 4 (by decide) rfl rfl rfl (hts _ (List.mem_of_getElem? (i := 6) rfl)) dX6_add_129 (by have := fb_rng v65; omega) (by have := fb_rng v65; omega) (fun E66 H67 k68 W66 I66 P66 => ?_)
    have S66 : Now D TB cy (va_A (va_pl L E) sz) s L τ E66 H67 k68 := ⟨W66, I66⟩
    have F66 : Fr L τ (inW [(5, 0), (100, 0), (101, 0), (102, 0), (103, 0), (104, 0), (105, 0), (106, 0), (107, 0), (108, 0), (109, 0), (110, 0), (111, 0), (112, 0)]) E E66 := Fr.put F61 P66 ta0 rfl
    refine lv_aload_n hx hb dX6_add_132 rfl (lv_at hl12 1 rfl) ?_
    refine lv_dup hx hb dX6_add_133 rfl ?_
    refine tr_geti Z.1 Z.2.2.2.1 S66.1 S66.2 ha0 ta0 rfl rfl (fun _ h => List.mem_cons_of_mem _ (List.mem_append_left _ (List.mem_append_right _ h))) 1 (by decide) rfl (hts _ (List.mem_of_getElem? (i := 1) rfl)) dX6_add_134 (fun v69 ev69 lv69 uv69 => ?_)
    have wv69 : v69 = v59 := ev69.symm.trans ((fi_put P66 (Or.inr (by decide))).trans ((fi_set P61 (ne_ro ta0 tq58 (by decide))).trans ev59))
    have xv69 : v69.toInt = v59.toInt := by rw [wv69]
    obtain ⟨v70, ev70, tv70⟩ : ∃ v : Int32, Int32.ofInt (1) = v ∧ v.toInt = 1 := ⟨_, rfl, by decide +kernel⟩
    refine lv_iconst hx hb dX6_add_137 ev70 ?_
    refine lv_iadd hx hb dX6_add_138 ?_
    refine lv_topi (fun v71 ev71 => ?_)
    have tv71 := nu_add ev71 (by omega) (by omega)
    refine tr_puti Z.1 Z.2.2.2.1 S66.1 S66.2 ha0 ta0 rfl rfl (fun _ h => List.mem_cons_of_mem _ (List.mem_append_left _ (List.mem_append_right _ h))) tyX6_ok nmX6 1 (by decide) rfl rfl rfl (hts _ (List.mem_of_getElem? (i := 1) rfl)) dX6_add_139 (by omega) (by omega) (fun E72 H73 k74 W72 I72 P72 => ?_)
    have S72 : Now D TB cy (va_A (va_pl L E) sz) s L τ E72 H73 k74 := ⟨W72, I72⟩
    have F72 : Fr L τ (inW [(5, 0), (100, 0), (101, 0), (102, 0), (103, 0), (104, 0), (105, 0), (106, 0), (107, 0), (108, 0), (109, 0), (110, 0), (111, 0), (112, 0)]) E E72 := Fr.put F66 P72 ta0 rfl
    rw [← hQ]
    exact en_v Z S72 F72 trivial dX6_add_142
  · skip
    have tc3 := nu_nlt c3
    rw [← hQ]
    exact en_v Z S0 F0_ trivial dX6_add_9

set_option maxHeartbeats 4000000 in
set_option maxRecDepth 100000 in
theorem k_X6_add_v1 (l : Launch) (D : va_G) (cy : Nat → ClassId) {L : List Nat} {τ : Nat → Ro} {E : Ec} (hI : Inv TB cy L τ E) {a0 : Nat} (ha0 : a0 ∈ L) (ta0 : τ a0 = (5, 1)) {a1 : Nat} (ha1 : a1 ∈ L) (ta1 : τ a1 = (1, 2)) (a2 : Int32) : CtV l yX6_add wsX6_add { frames := 1, cells := 0, slots := 0, locals := 22 } D TB cy L τ E [.ref a0, .ref a1, .int a2] (inW [(5, 1), (100, 1), (101, 1), (102, 1), (103, 1), (104, 1), (105, 1), (106, 1), (107, 1), (108, 1), (109, 1), (110, 1), (111, 1), (112, 1)]) (fun E' => True) := by
  intro sz
  refine sta (cc := cX6_add) (maxL := 4) hI (by decide) rfl (Nat.le_of_ble_eq_true rfl) (fun p e s m args below meth c ls hsz Z S0 hl => ?_)
  have hx := Z.1.1
  have hb := Z.1.2.1
  have hts := Z.1.2.2.2.2
  have F0_ : Fr L τ (inW [(5, 1), (100, 1), (101, 1), (102, 1), (103, 1), (104, 1), (105, 1), (106, 1), (107, 1), (108, 1), (109, 1), (110, 1), (111, 1), (112, 1)]) E E := Fr.refl
  have hl : lv_has ls 4 [(0, .ref a0), (1, .ref a1), (2, .int a2)] := hl
  generalize hQ : MQ below _ args s 0 0 _ = QQ
  refine lv_aload_n hx hb dX6_add_0 rfl (lv_at hl 0 rfl) ?_
  refine tr_geti Z.1 Z.2.2.2.1 S0.1 S0.2 ha0 ta0 rfl rfl (fun _ h => List.mem_cons_of_mem _ (List.mem_append_left _ (List.mem_append_right _ h))) 1 (by decide) rfl (hts _ (List.mem_of_getElem? (i := 1) rfl)) dX6_add_1 (fun v1 ev1 lv1 uv1 => ?_)
  obtain ⟨v2, ev2, tv2⟩ : ∃ v : Int32, (Int8.ofInt (66)).toInt32 = v ∧ v.toInt = 66 := ⟨_, rfl, by decide +kernel⟩
  refine lv_bipush hx hb dX6_add_4 ev2 ?_
  refine lv_icmp_lt (tgt := 10) hx hb dX6_add_6 (by decide) (fun c3 => ?_) (fun c3 => ?_)
  · skip
    have tc3 := nu_lt c3
    refine lv_aload_n hx hb dX6_add_10 rfl (lv_at hl 1 rfl) ?_
    refine tr_geti Z.1 Z.2.2.2.1 S0.1 S0.2 ha1 ta1 rfl rfl (fun _ h => List.mem_cons_of_mem _ (List.mem_append_right _ h)) 0 (by decide) rfl (hts _ (List.mem_of_getElem? (i := 2) rfl)) dX6_add_11 (fun v4 ev4 lv4 uv4 => ?_)
    refine lv_aload_n hx hb dX6_add_14 rfl (lv_at hl 0 rfl) ?_
    refine tr_geti Z.1 Z.2.2.2.1 S0.1 S0.2 ha0 ta0 rfl rfl (fun _ h => List.mem_cons_of_mem _ (List.mem_append_left _ (List.mem_append_right _ h))) 2 (by decide) rfl (hts _ (List.mem_of_getElem? (i := 3) rfl)) dX6_add_15 (fun v5 ev5 lv5 uv5 => ?_)
    refine lv_aload_n hx hb dX6_add_18 rfl (lv_at hl 0 rfl) ?_
    refine tr_geti Z.1 Z.2.2.2.1 S0.1 S0.2 ha0 ta0 rfl rfl (fun _ h => List.mem_cons_of_mem _ (List.mem_append_left _ (List.mem_append_right _ h))) 1 (by decide) rfl (hts _ (List.mem_of_getElem? (i := 1) rfl)) dX6_add_19 (fun v6 ev6 lv6 uv6 => ?_)
    have wv6 : v6 = v1 := ev6.symm.trans ev1
    have xv6 : v6.toInt = v1.toInt := by rw [wv6]
    refine tc_sni Z.1 Z.2.2.2.1 Z.2.2.2.2.1 Z.2.2.2.2.2 S0.1 (k_X9_share l D cy S0.2 v4 v5 v6) ⟨va_cnB (host := RX9) 3 hts gX6_add_X9_share_n65 rfl rfl rfl (Z.2.2.2.2.1 _ (by decide +kernel)) (hts _ (List.mem_of_getElem? (i := 9) rfl)) (by decide +kernel) ⟨Nat.le_of_ble_eq_true rfl, Nat.le_of_ble_eq_true rfl⟩, hts _ (List.mem_of_getElem? (i := 8) rfl), trivial⟩ rfl hl.1 rfl (Nat.le_of_ble_eq_true rfl) dX6_add_22 ⟨Nat.zero_le _, Nat.zero_le _⟩ (fun v10 E7 H8 k9 W7 I7 G7 p7 => ?_)
    have q7 := p7
    have q7 := q7.symm
    subst q7
    have S7 : Now D TB cy (va_A (va_pl L E) sz) s L τ E H8 k9 := ⟨W7, I7⟩
    refine lv_istore_n (lv' := [(3, .int v10), (0, .ref a0), (1, .ref a1), (2, .int a2)]) hx hb dX6_add_25 rfl hl (by decide) rfl (fun l11 hl12 => ?_)
    refine lv_aload_n hx hb dX6_add_26 rfl (lv_at hl12 1 rfl) ?_
    refine lv_dup hx hb dX6_add_27 rfl ?_
    refine tr_geti Z.1 Z.2.2.2.1 S7.1 S7.2 ha0 ta0 rfl rfl (fun _ h => List.mem_cons_of_mem _ (List.mem_append_left _ (List.mem_append_right _ h))) 3 (by decide) rfl (hts _ (List.mem_of_getElem? (i := 4) rfl)) dX6_add_28 (fun v13 ev13 lv13 uv13 => ?_)
    refine lv_iload_n hx hb dX6_add_31 rfl (lv_at hl12 0 rfl) ?_
    refine lv_iadd hx hb dX6_add_32 ?_
    refine lv_topi (fun v14 ev14 => ?_)
    refine tr_puti Z.1 Z.2.2.2.1 S7.1 S7.2 ha0 ta0 rfl rfl (fun _ h => List.mem_cons_of_mem _ (List.mem_append_left _ (List.mem_append_right _ h))) tyX6_ok nmX6 3 (by decide) rfl rfl rfl (hts _ (List.mem_of_getElem? (i := 4) rfl)) dX6_add_33 (by have := fb_rng v14; omega) (by have := fb_rng v14; omega) (fun E15 H16 k17 W15 I15 P15 => ?_)
    have S15 : Now D TB cy (va_A (va_pl L E) sz) s L τ E15 H16 k17 := ⟨W15, I15⟩
    have F15 : Fr L τ (inW [(5, 1), (100, 1), (101, 1), (102, 1), (103, 1), (104, 1), (105, 1), (106, 1), (107, 1), (108, 1), (109, 1), (110, 1), (111, 1), (112, 1)]) E E15 := Fr.put F0_ P15 ta0 rfl
    refine lv_aload_n hx hb dX6_add_36 rfl (lv_at hl12 1 rfl) ?_
    refine tr_getr Z.1 Z.2.2.2.1 S15.1 S15.2 ha0 ta0 rfl rfl (fun _ h => List.mem_cons_of_mem _ (List.mem_append_left _ (List.mem_append_right _ h))) 0 (by decide) rfl (hts _ (List.mem_of_getElem? (i := 5) rfl)) dX6_add_37 (fun q18 eq18 hq18 tq18 => ?_)
    have tq18 : τ q18 = (30, 1) := tq18
    obtain ⟨v19, ev19, tv19⟩ : ∃ v : Int32, Int32.ofInt (1) = v ∧ v.toInt = 1 := ⟨_, rfl, by decide +kernel⟩
    refine lv_iconst hx hb dX6_add_40 ev19 ?_
    refine tr_aaldr (ra := 101) (rb := 1) Z.1 Z.2.2.2.1 S15.1 S15.2 hq18 tq18 rfl (row_at (w := 1) (by omega)) rfl rfl (by omega) (by omega) dX6_add_41 (fun q20 eq20 hq20 tq20 => ?_)
    have tq20 : τ q20 = (101, 1) := tq20
    refine lv_aload_n hx hb dX6_add_42 rfl (lv_at hl12 1 rfl) ?_
    refine tr_geti Z.1 Z.2.2.2.1 S15.1 S15.2 ha0 ta0 rfl rfl (fun _ h => List.mem_cons_of_mem _ (List.mem_append_left _ (List.mem_append_right _ h))) 1 (by decide) rfl (hts _ (List.mem_of_getElem? (i := 1) rfl)) dX6_add_43 (fun v21 ev21 lv21 uv21 => ?_)
    have wv21 : v21 = v6 := ev21.symm.trans ((fi_put P15 (Or.inr (by decide))).trans ev6)
    have xv21 : v21.toInt = v6.toInt := by rw [wv21]
    refine lv_iload_n hx hb dX6_add_46 rfl (lv_at hl12 0 rfl) ?_
    refine tr_iast Z.1 Z.2.2.2.1 S15.1 S15.2 hq20 tq20 rfl (by omega) (by omega) (by have := fb_rng v10; omega) (by have := fb_rng v10; omega) dX6_add_47 (fun E22 H23 k24 W22 I22 P22 => ?_)
    have S22 : Now D TB cy (va_A (va_pl L E) sz) s L τ E22 H23 k24 := ⟨W22, I22⟩
    have F22 : Fr L τ (inW [(5, 1), (100, 1), (101, 1), (102, 1), (103, 1), (104, 1), (105, 1), (106, 1), (107, 1), (108, 1), (109, 1), (110, 1), (111, 1), (112, 1)]) E E22 := Fr.set F15 P22 tq20 rfl
    refine lv_aload_n hx hb dX6_add_48 rfl (lv_at hl12 1 rfl) ?_
    refine tr_getr Z.1 Z.2.2.2.1 S22.1 S22.2 ha0 ta0 rfl rfl (fun _ h => List.mem_cons_of_mem _ (List.mem_append_left _ (List.mem_append_right _ h))) 0 (by decide) rfl (hts _ (List.mem_of_getElem? (i := 5) rfl)) dX6_add_49 (fun q25 eq25 hq25 tq25 => ?_)
    have tq25 : τ q25 = (30, 1) := tq25
    have uq25 : q18 = q25 := S22.2.2.2.2 _ hq18 _ hq25 (tq18.trans tq25.symm) (by rw [tq18]; rfl)
    subst uq25
    obtain ⟨v26, ev26, tv26⟩ : ∃ v : Int32, Int32.ofInt (2) = v ∧ v.toInt = 2 := ⟨_, rfl, by decide +kernel⟩
    refine lv_iconst hx hb dX6_add_52 ev26 ?_
    refine tr_aaldr (ra := 102) (rb := 1) Z.1 Z.2.2.2.1 S22.1 S22.2 hq18 tq18 rfl (row_at (w := 2) (by omega)) rfl rfl (by omega) (by omega) dX6_add_53 (fun q27 eq27 hq27 tq27 => ?_)
    have tq27 : τ q27 = (102, 1) := tq27
    refine lv_aload_n hx hb dX6_add_54 rfl (lv_at hl12 1 rfl) ?_
    refine tr_geti Z.1 Z.2.2.2.1 S22.1 S22.2 ha0 ta0 rfl rfl (fun _ h => List.mem_cons_of_mem _ (List.mem_append_left _ (List.mem_append_right _ h))) 1 (by decide) rfl (hts _ (List.mem_of_getElem? (i := 1) rfl)) dX6_add_55 (fun v28 ev28 lv28 uv28 => ?_)
    have wv28 : v28 = v21 := ev28.symm.trans ((fi_set P22 (ne_ro ta0 tq20 (by decide))).trans ev21)
    have xv28 : v28.toInt = v21.toInt := by rw [wv28]
    refine lv_aload_n hx hb dX6_add_58 rfl (lv_at hl12 1 rfl) ?_
    refine tr_geti Z.1 Z.2.2.2.1 S22.1 S22.2 ha0 ta0 rfl rfl (fun _ h => List.mem_cons_of_mem _ (List.mem_append_left _ (List.mem_append_right _ h))) 3 (by decide) rfl (hts _ (List.mem_of_getElem? (i := 4) rfl)) dX6_add_59 (fun v29 ev29 lv29 uv29 => ?_)
    have wv29 : v29 = v14 := ev29.symm.trans ((fi_set P22 (ne_ro ta0 tq20 (by decide))).trans (fi_at P15))
    have xv29 : v29.toInt = v14.toInt := by rw [wv29]
    refine tr_iast Z.1 Z.2.2.2.1 S22.1 S22.2 hq27 tq27 rfl (by omega) (by omega) (by have := fb_rng v29; omega) (by have := fb_rng v29; omega) dX6_add_62 (fun E30 H31 k32 W30 I30 P30 => ?_)
    have S30 : Now D TB cy (va_A (va_pl L E) sz) s L τ E30 H31 k32 := ⟨W30, I30⟩
    have F30 : Fr L τ (inW [(5, 1), (100, 1), (101, 1), (102, 1), (103, 1), (104, 1), (105, 1), (106, 1), (107, 1), (108, 1), (109, 1), (110, 1), (111, 1), (112, 1)]) E E30 := Fr.set F22 P30 tq27 rfl
    refine lv_aload_n hx hb dX6_add_63 rfl (lv_at hl12 1 rfl) ?_
    refine tr_getr Z.1 Z.2.2.2.1 S30.1 S30.2 ha0 ta0 rfl rfl (fun _ h => List.mem_cons_of_mem _ (List.mem_append_left _ (List.mem_append_right _ h))) 0 (by decide) rfl (hts _ (List.mem_of_getElem? (i := 5) rfl)) dX6_add_64 (fun q33 eq33 hq33 tq33 => ?_)
    have tq33 : τ q33 = (30, 1) := tq33
    have uq33 : q18 = q33 := S30.2.2.2.2 _ hq18 _ hq33 (tq18.trans tq33.symm) (by rw [tq18]; rfl)
    subst uq33
    obtain ⟨v34, ev34, tv34⟩ : ∃ v : Int32, Int32.ofInt (3) = v ∧ v.toInt = 3 := ⟨_, rfl, by decide +kernel⟩
    refine lv_iconst hx hb dX6_add_67 ev34 ?_
    refine tr_aaldr (ra := 103) (rb := 1) Z.1 Z.2.2.2.1 S30.1 S30.2 hq18 tq18 rfl (row_at (w := 3) (by omega)) rfl rfl (by omega) (by omega) dX6_add_68 (fun q35 eq35 hq35 tq35 => ?_)
    have tq35 : τ q35 = (103, 1) := tq35
    refine lv_aload_n hx hb dX6_add_69 rfl (lv_at hl12 1 rfl) ?_
    refine tr_geti Z.1 Z.2.2.2.1 S30.1 S30.2 ha0 ta0 rfl rfl (fun _ h => List.mem_cons_of_mem _ (List.mem_append_left _ (List.mem_append_right _ h))) 1 (by decide) rfl (hts _ (List.mem_of_getElem? (i := 1) rfl)) dX6_add_70 (fun v36 ev36 lv36 uv36 => ?_)
    have wv36 : v36 = v28 := ev36.symm.trans ((fi_set P30 (ne_ro ta0 tq27 (by decide))).trans ev28)
    have xv36 : v36.toInt = v28.toInt := by rw [wv36]
    refine lv_iload_n hx hb dX6_add_73 rfl (lv_at hl12 3 rfl) ?_
    refine tr_iast Z.1 Z.2.2.2.1 S30.1 S30.2 hq35 tq35 rfl (by omega) (by omega) (by have := fb_rng a2; omega) (by have := fb_rng a2; omega) dX6_add_74 (fun E37 H38 k39 W37 I37 P37 => ?_)
    have S37 : Now D TB cy (va_A (va_pl L E) sz) s L τ E37 H38 k39 := ⟨W37, I37⟩
    have F37 : Fr L τ (inW [(5, 1), (100, 1), (101, 1), (102, 1), (103, 1), (104, 1), (105, 1), (106, 1), (107, 1), (108, 1), (109, 1), (110, 1), (111, 1), (112, 1)]) E E37 := Fr.set F30 P37 tq35 rfl
    refine lv_aload_n hx hb dX6_add_75 rfl (lv_at hl12 1 rfl) ?_
    refine tr_getr Z.1 Z.2.2.2.1 S37.1 S37.2 ha0 ta0 rfl rfl (fun _ h => List.mem_cons_of_mem _ (List.mem_append_left _ (List.mem_append_right _ h))) 0 (by decide) rfl (hts _ (List.mem_of_getElem? (i := 5) rfl)) dX6_add_76 (fun q40 eq40 hq40 tq40 => ?_)
    have tq40 : τ q40 = (30, 1) := tq40
    have uq40 : q18 = q40 := S37.2.2.2.2 _ hq18 _ hq40 (tq18.trans tq40.symm) (by rw [tq18]; rfl)
    subst uq40
    obtain ⟨v41, ev41, tv41⟩ : ∃ v : Int32, Int32.ofInt (5) = v ∧ v.toInt = 5 := ⟨_, rfl, by decide +kernel⟩
    refine lv_iconst hx hb dX6_add_79 ev41 ?_
    refine tr_aaldr (ra := 105) (rb := 1) Z.1 Z.2.2.2.1 S37.1 S37.2 hq18 tq18 rfl (row_at (w := 5) (by omega)) rfl rfl (by omega) (by omega) dX6_add_80 (fun q42 eq42 hq42 tq42 => ?_)
    have tq42 : τ q42 = (105, 1) := tq42
    refine lv_aload_n hx hb dX6_add_81 rfl (lv_at hl12 1 rfl) ?_
    refine tr_geti Z.1 Z.2.2.2.1 S37.1 S37.2 ha0 ta0 rfl rfl (fun _ h => List.mem_cons_of_mem _ (List.mem_append_left _ (List.mem_append_right _ h))) 1 (by decide) rfl (hts _ (List.mem_of_getElem? (i := 1) rfl)) dX6_add_82 (fun v43 ev43 lv43 uv43 => ?_)
    have wv43 : v43 = v36 := ev43.symm.trans ((fi_set P37 (ne_ro ta0 tq35 (by decide))).trans ev36)
    have xv43 : v43.toInt = v36.toInt := by rw [wv43]
    refine lv_aload_n hx hb dX6_add_85 rfl (lv_at hl12 1 rfl) ?_
    refine tr_geti Z.1 Z.2.2.2.1 S37.1 S37.2 ha0 ta0 rfl rfl (fun _ h => List.mem_cons_of_mem _ (List.mem_append_left _ (List.mem_append_right _ h))) 4 (by decide) rfl (hts _ (List.mem_of_getElem? (i := 6) rfl)) dX6_add_86 (fun v44 ev44 lv44 uv44 => ?_)
    refine tr_iast Z.1 Z.2.2.2.1 S37.1 S37.2 hq42 tq42 rfl (by omega) (by omega) (by have := fb_rng v44; omega) (by have := fb_rng v44; omega) dX6_add_89 (fun E45 H46 k47 W45 I45 P45 => ?_)
    have S45 : Now D TB cy (va_A (va_pl L E) sz) s L τ E45 H46 k47 := ⟨W45, I45⟩
    have F45 : Fr L τ (inW [(5, 1), (100, 1), (101, 1), (102, 1), (103, 1), (104, 1), (105, 1), (106, 1), (107, 1), (108, 1), (109, 1), (110, 1), (111, 1), (112, 1)]) E E45 := Fr.set F37 P45 tq42 rfl
    refine lv_aload_n hx hb dX6_add_90 rfl (lv_at hl12 1 rfl) ?_
    refine tr_getr Z.1 Z.2.2.2.1 S45.1 S45.2 ha0 ta0 rfl rfl (fun _ h => List.mem_cons_of_mem _ (List.mem_append_left _ (List.mem_append_right _ h))) 0 (by decide) rfl (hts _ (List.mem_of_getElem? (i := 5) rfl)) dX6_add_91 (fun q48 eq48 hq48 tq48 => ?_)
    have tq48 : τ q48 = (30, 1) := tq48
    have uq48 : q18 = q48 := S45.2.2.2.2 _ hq18 _ hq48 (tq18.trans tq48.symm) (by rw [tq18]; rfl)
    subst uq48
    obtain ⟨v49, ev49, tv49⟩ : ∃ v : Int32, (Int8.ofInt (9)).toInt32 = v ∧ v.toInt = 9 := ⟨_, rfl, by decide +kernel⟩
    refine lv_bipush hx hb dX6_add_94 ev49 ?_
    refine tr_aaldr (ra := 109) (rb := 1) Z.1 Z.2.2.2.1 S45.1 S45.2 hq18 tq18 rfl (row_at (w := 9) (by omega)) rfl rfl (by omega) (by omega) dX6_add_96 (fun q50 eq50 hq50 tq50 => ?_)
    have tq50 : τ q50 = (109, 1) := tq50
    refine lv_aload_n hx hb dX6_add_97 rfl (lv_at hl12 1 rfl) ?_
    refine tr_geti Z.1 Z.2.2.2.1 S45.1 S45.2 ha0 ta0 rfl rfl (fun _ h => List.mem_cons_of_mem _ (List.mem_append_left _ (List.mem_append_right _ h))) 1 (by decide) rfl (hts _ (List.mem_of_getElem? (i := 1) rfl)) dX6_add_98 (fun v51 ev51 lv51 uv51 => ?_)
    have wv51 : v51 = v43 := ev51.symm.trans ((fi_set P45 (ne_ro ta0 tq42 (by decide))).trans ev43)
    have xv51 : v51.toInt = v43.toInt := by rw [wv51]
    refine lv_aload_n hx hb dX6_add_101 rfl (lv_at hl12 2 rfl) ?_
    refine tr_geti Z.1 Z.2.2.2.1 S45.1 S45.2 ha1 ta1 rfl rfl (fun _ h => List.mem_cons_of_mem _ (List.mem_append_right _ h)) 1 (by decide) rfl (hts _ (List.mem_of_getElem? (i := 7) rfl)) dX6_add_102 (fun v52 ev52 lv52 uv52 => ?_)
    refine tr_iast Z.1 Z.2.2.2.1 S45.1 S45.2 hq50 tq50 rfl (by omega) (by omega) (by have := fb_rng v52; omega) (by have := fb_rng v52; omega) dX6_add_105 (fun E53 H54 k55 W53 I53 P53 => ?_)
    have S53 : Now D TB cy (va_A (va_pl L E) sz) s L τ E53 H54 k55 := ⟨W53, I53⟩
    have F53 : Fr L τ (inW [(5, 1), (100, 1), (101, 1), (102, 1), (103, 1), (104, 1), (105, 1), (106, 1), (107, 1), (108, 1), (109, 1), (110, 1), (111, 1), (112, 1)]) E E53 := Fr.set F45 P53 tq50 rfl
    refine lv_aload_n hx hb dX6_add_106 rfl (lv_at hl12 1 rfl) ?_
    refine tr_getr Z.1 Z.2.2.2.1 S53.1 S53.2 ha0 ta0 rfl rfl (fun _ h => List.mem_cons_of_mem _ (List.mem_append_left _ (List.mem_append_right _ h))) 0 (by decide) rfl (hts _ (List.mem_of_getElem? (i := 5) rfl)) dX6_add_107 (fun q56 eq56 hq56 tq56 => ?_)
    have tq56 : τ q56 = (30, 1) := tq56
    have uq56 : q18 = q56 := S53.2.2.2.2 _ hq18 _ hq56 (tq18.trans tq56.symm) (by rw [tq18]; rfl)
    subst uq56
    obtain ⟨v57, ev57, tv57⟩ : ∃ v : Int32, (Int8.ofInt (10)).toInt32 = v ∧ v.toInt = 10 := ⟨_, rfl, by decide +kernel⟩
    refine lv_bipush hx hb dX6_add_110 ev57 ?_
    refine tr_aaldr (ra := 110) (rb := 1) Z.1 Z.2.2.2.1 S53.1 S53.2 hq18 tq18 rfl (row_at (w := 10) (by omega)) rfl rfl (by omega) (by omega) dX6_add_112 (fun q58 eq58 hq58 tq58 => ?_)
    have tq58 : τ q58 = (110, 1) := tq58
    refine lv_aload_n hx hb dX6_add_113 rfl (lv_at hl12 1 rfl) ?_
    refine tr_geti Z.1 Z.2.2.2.1 S53.1 S53.2 ha0 ta0 rfl rfl (fun _ h => List.mem_cons_of_mem _ (List.mem_append_left _ (List.mem_append_right _ h))) 1 (by decide) rfl (hts _ (List.mem_of_getElem? (i := 1) rfl)) dX6_add_114 (fun v59 ev59 lv59 uv59 => ?_)
    have wv59 : v59 = v51 := ev59.symm.trans ((fi_set P53 (ne_ro ta0 tq50 (by decide))).trans ev51)
    have xv59 : v59.toInt = v51.toInt := by rw [wv59]
    refine lv_aload_n hx hb dX6_add_117 rfl (lv_at hl12 1 rfl) ?_
    refine tr_geti Z.1 Z.2.2.2.1 S53.1 S53.2 ha0 ta0 rfl rfl (fun _ h => List.mem_cons_of_mem _ (List.mem_append_left _ (List.mem_append_right _ h))) 2 (by decide) rfl (hts _ (List.mem_of_getElem? (i := 3) rfl)) dX6_add_118 (fun v60 ev60 lv60 uv60 => ?_)
    have wv60 : v60 = v5 := ev60.symm.trans ((fi_set P53 (ne_ro ta0 tq50 (by decide))).trans ((fi_set P45 (ne_ro ta0 tq42 (by decide))).trans ((fi_set P37 (ne_ro ta0 tq35 (by decide))).trans ((fi_set P30 (ne_ro ta0 tq27 (by decide))).trans ((fi_set P22 (ne_ro ta0 tq20 (by decide))).trans ((fi_put P15 (Or.inr (by decide))).trans ev5))))))
    have xv60 : v60.toInt = v5.toInt := by rw [wv60]
    refine tr_iast Z.1 Z.2.2.2.1 S53.1 S53.2 hq58 tq58 rfl (by omega) (by omega) (by have := fb_rng v60; omega) (by have := fb_rng v60; omega) dX6_add_121 (fun E61 H62 k63 W61 I61 P61 => ?_)
    have S61 : Now D TB cy (va_A (va_pl L E) sz) s L τ E61 H62 k63 := ⟨W61, I61⟩
    have F61 : Fr L τ (inW [(5, 1), (100, 1), (101, 1), (102, 1), (103, 1), (104, 1), (105, 1), (106, 1), (107, 1), (108, 1), (109, 1), (110, 1), (111, 1), (112, 1)]) E E61 := Fr.set F53 P61 tq58 rfl
    refine lv_aload_n hx hb dX6_add_122 rfl (lv_at hl12 1 rfl) ?_
    refine lv_dup hx hb dX6_add_123 rfl ?_
    refine tr_geti Z.1 Z.2.2.2.1 S61.1 S61.2 ha0 ta0 rfl rfl (fun _ h => List.mem_cons_of_mem _ (List.mem_append_left _ (List.mem_append_right _ h))) 4 (by decide) rfl (hts _ (List.mem_of_getElem? (i := 6) rfl)) dX6_add_124 (fun v64 ev64 lv64 uv64 => ?_)
    have wv64 : v64 = v44 := ev64.symm.trans ((fi_set P61 (ne_ro ta0 tq58 (by decide))).trans ((fi_set P53 (ne_ro ta0 tq50 (by decide))).trans ((fi_set P45 (ne_ro ta0 tq42 (by decide))).trans ev44)))
    have xv64 : v64.toInt = v44.toInt := by rw [wv64]
    refine lv_iload_n hx hb dX6_add_127 rfl (lv_at hl12 3 rfl) ?_
    refine lv_iadd hx hb dX6_add_128 ?_
    refine lv_topi (fun v65 ev65 => ?_)
    refine tr_puti Z.1 Z.2.2.2.1 S61.1 S61.2 ha0 ta0 rfl rfl (fun _ h => List.mem_cons_of_mem _ (List.mem_append_left _ (List.mem_append_right _ h))) tyX6_ok nmX6 4 (by decide) rfl rfl rfl (hts _ (List.mem_of_getElem? (i := 6) rfl)) dX6_add_129 (by have := fb_rng v65; omega) (by have := fb_rng v65; omega) (fun E66 H67 k68 W66 I66 P66 => ?_)
    have S66 : Now D TB cy (va_A (va_pl L E) sz) s L τ E66 H67 k68 := ⟨W66, I66⟩
    have F66 : Fr L τ (inW [(5, 1), (100, 1), (101, 1), (102, 1), (103, 1), (104, 1), (105, 1), (106, 1), (107, 1), (108, 1), (109, 1), (110, 1), (111, 1), (112, 1)]) E E66 := Fr.put F61 P66 ta0 rfl
    refine lv_aload_n hx hb dX6_add_132 rfl (lv_at hl12 1 rfl) ?_
    refine lv_dup hx hb dX6_add_133 rfl ?_
    refine tr_geti Z.1 Z.2.2.2.1 S66.1 S66.2 ha0 ta0 rfl rfl (fun _ h => List.mem_cons_of_mem _ (List.mem_append_left _ (List.mem_append_right _ h))) 1 (by decide) rfl (hts _ (List.mem_of_getElem? (i := 1) rfl)) dX6_add_134 (fun v69 ev69 lv69 uv69 => ?_)
    have wv69 : v69 = v59 := ev69.symm.trans ((fi_put P66 (Or.inr (by decide))).trans ((fi_set P61 (ne_ro ta0 tq58 (by decide))).trans ev59))
    have xv69 : v69.toInt = v59.toInt := by rw [wv69]
    obtain ⟨v70, ev70, tv70⟩ : ∃ v : Int32, Int32.ofInt (1) = v ∧ v.toInt = 1 := ⟨_, rfl, by decide +kernel⟩
    refine lv_iconst hx hb dX6_add_137 ev70 ?_
    refine lv_iadd hx hb dX6_add_138 ?_
    refine lv_topi (fun v71 ev71 => ?_)
    have tv71 := nu_add ev71 (by omega) (by omega)
    refine tr_puti Z.1 Z.2.2.2.1 S66.1 S66.2 ha0 ta0 rfl rfl (fun _ h => List.mem_cons_of_mem _ (List.mem_append_left _ (List.mem_append_right _ h))) tyX6_ok nmX6 1 (by decide) rfl rfl rfl (hts _ (List.mem_of_getElem? (i := 1) rfl)) dX6_add_139 (by omega) (by omega) (fun E72 H73 k74 W72 I72 P72 => ?_)
    have S72 : Now D TB cy (va_A (va_pl L E) sz) s L τ E72 H73 k74 := ⟨W72, I72⟩
    have F72 : Fr L τ (inW [(5, 1), (100, 1), (101, 1), (102, 1), (103, 1), (104, 1), (105, 1), (106, 1), (107, 1), (108, 1), (109, 1), (110, 1), (111, 1), (112, 1)]) E E72 := Fr.put F66 P72 ta0 rfl
    rw [← hQ]
    exact en_v Z S72 F72 trivial dX6_add_142
  · skip
    have tc3 := nu_nlt c3
    rw [← hQ]
    exact en_v Z S0 F0_ trivial dX6_add_9

theorem dX6_head_0 : decode cX6_head 0 = .ok (.aload_n 0, 1) := by decide +kernel
theorem dX6_head_1 : decode cX6_head 1 = .ok (.getfield 13, 3) := by decide +kernel
theorem dX6_head_4 : decode cX6_head 4 = .ok (.iconst 5, 1) := by decide +kernel
theorem dX6_head_5 : decode cX6_head 5 = .ok (.aaload, 1) := by decide +kernel
theorem dX6_head_6 : decode cX6_head 6 = .ok (.iload_n 2, 1) := by decide +kernel
theorem dX6_head_7 : decode cX6_head 7 = .ok (.iaload, 1) := by decide +kernel
theorem dX6_head_8 : decode cX6_head 8 = .ok (.istore_n 3, 1) := by decide +kernel
theorem dX6_head_9 : decode cX6_head 9 = .ok (.iload_n 3, 1) := by decide +kernel
theorem dX6_head_10 : decode cX6_head 10 = .ok (.aload_n 0, 1) := by decide +kernel
theorem dX6_head_11 : decode cX6_head 11 = .ok (.getfield 13, 3) := by decide +kernel
theorem dX6_head_14 : decode cX6_head 14 = .ok (.iconst 3, 1) := by decide +kernel
theorem dX6_head_15 : decode cX6_head 15 = .ok (.aaload, 1) := by decide +kernel
theorem dX6_head_16 : decode cX6_head 16 = .ok (.iload_n 2, 1) := by decide +kernel
theorem dX6_head_17 : decode cX6_head 17 = .ok (.iaload, 1) := by decide +kernel
theorem dX6_head_18 : decode cX6_head 18 = .ok (.iadd, 1) := by decide +kernel
theorem dX6_head_19 : decode cX6_head 19 = .ok (.istore 4, 2) := by decide +kernel
theorem dX6_head_21 : decode cX6_head 21 = .ok (.sipush 9999, 3) := by decide +kernel
theorem dX6_head_24 : decode cX6_head 24 = .ok (.istore 5, 2) := by decide +kernel
theorem dX6_head_26 : decode cX6_head 26 = .ok (.iconst 0, 1) := by decide +kernel
theorem dX6_head_27 : decode cX6_head 27 = .ok (.istore 6, 2) := by decide +kernel
theorem dX6_head_29 : decode cX6_head 29 = .ok (.iload 6, 2) := by decide +kernel
theorem dX6_head_31 : decode cX6_head 31 = .ok (.aload_n 1, 1) := by decide +kernel
theorem dX6_head_32 : decode cX6_head 32 = .ok (.getfield 94, 3) := by decide +kernel
theorem dX6_head_35 : decode cX6_head 35 = .ok (.if_icmp .ge 58, 3) := by decide +kernel
theorem dX6_head_38 : decode cX6_head 38 = .ok (.iload_n 3, 1) := by decide +kernel
theorem dX6_head_39 : decode cX6_head 39 = .ok (.aload_n 1, 1) := by decide +kernel
theorem dX6_head_40 : decode cX6_head 40 = .ok (.getfield 97, 3) := by decide +kernel
theorem dX6_head_43 : decode cX6_head 43 = .ok (.iload 6, 2) := by decide +kernel
theorem dX6_head_45 : decode cX6_head 45 = .ok (.iaload, 1) := by decide +kernel
theorem dX6_head_46 : decode cX6_head 46 = .ok (.invokestatic 100, 3) := by decide +kernel
theorem dX6_head_49 : decode cX6_head 49 = .ok (.iload 4, 2) := by decide +kernel
theorem dX6_head_51 : decode cX6_head 51 = .ok (.aload_n 1, 1) := by decide +kernel
theorem dX6_head_52 : decode cX6_head 52 = .ok (.getfield 106, 3) := by decide +kernel
theorem dX6_head_55 : decode cX6_head 55 = .ok (.iload 6, 2) := by decide +kernel
theorem dX6_head_57 : decode cX6_head 57 = .ok (.iaload, 1) := by decide +kernel
theorem dX6_head_58 : decode cX6_head 58 = .ok (.invokestatic 109, 3) := by decide +kernel
theorem dX6_head_61 : decode cX6_head 61 = .ok (.if_icmp .ge 26, 3) := by decide +kernel
theorem dX6_head_64 : decode cX6_head 64 = .ok (.iload 5, 2) := by decide +kernel
theorem dX6_head_66 : decode cX6_head 66 = .ok (.aload_n 1, 1) := by decide +kernel
theorem dX6_head_67 : decode cX6_head 67 = .ok (.getfield 112, 3) := by decide +kernel
theorem dX6_head_70 : decode cX6_head 70 = .ok (.iload 6, 2) := by decide +kernel
theorem dX6_head_72 : decode cX6_head 72 = .ok (.iaload, 1) := by decide +kernel
theorem dX6_head_73 : decode cX6_head 73 = .ok (.aload_n 0, 1) := by decide +kernel
theorem dX6_head_74 : decode cX6_head 74 = .ok (.getfield 13, 3) := by decide +kernel
theorem dX6_head_77 : decode cX6_head 77 = .ok (.iconst 2, 1) := by decide +kernel
theorem dX6_head_78 : decode cX6_head 78 = .ok (.aaload, 1) := by decide +kernel
theorem dX6_head_79 : decode cX6_head 79 = .ok (.iload_n 2, 1) := by decide +kernel
theorem dX6_head_80 : decode cX6_head 80 = .ok (.iaload, 1) := by decide +kernel
theorem dX6_head_81 : decode cX6_head 81 = .ok (.isub, 1) := by decide +kernel
theorem dX6_head_82 : decode cX6_head 82 = .ok (.invokestatic 109, 3) := by decide +kernel
theorem dX6_head_85 : decode cX6_head 85 = .ok (.istore 5, 2) := by decide +kernel
theorem dX6_head_87 : decode cX6_head 87 = .ok (.iinc 6 1, 3) := by decide +kernel
theorem dX6_head_90 : decode cX6_head 90 = .ok (.goto (-61), 3) := by decide +kernel
theorem dX6_head_93 : decode cX6_head 93 = .ok (.iload 5, 2) := by decide +kernel
theorem dX6_head_95 : decode cX6_head 95 = .ok (.ireturn, 1) := by decide +kernel
set_option maxHeartbeats 4000000 in
set_option maxRecDepth 100000 in
theorem k_X6_head_v0 (l : Launch) (D : va_G) (cy : Nat → ClassId) {L : List Nat} {τ : Nat → Ro} {E : Ec} (hI : Inv TB cy L τ E) {a0 : Nat} (ha0 : a0 ∈ L) (ta0 : τ a0 = (5, 0)) {a1 : Nat} (ha1 : a1 ∈ L) (ta1 : τ a1 = (1, 0)) (a2 : Int32) (la2 : 0 ≤ a2.toInt) (ua2 : a2.toInt ≤ 65) : CtI l yX6_head wsX6_head { frames := 1, cells := 0, slots := 0, locals := 21 } D TB cy L τ E [.ref a0, .ref a1, .int a2] (inW []) (fun r E' => E' = E) := by
  intro sz
  refine sta (cc := cX6_head) (maxL := 7) hI (by decide) rfl (Nat.le_of_ble_eq_true rfl) (fun p e s m args below meth c ls hsz Z S0 hl => ?_)
  have hx := Z.1.1
  have hb := Z.1.2.1
  have hts := Z.1.2.2.2.2
  have F0_ : Fr L τ (inW []) E E := Fr.refl
  have hl : lv_has ls 7 [(0, .ref a0), (1, .ref a1), (2, .int a2)] := hl
  generalize hQ : MQ below _ args s 0 0 _ = QQ
  have J29 : ∀ (n : Nat) (x3_29 : Int32) (x4_29 : Int32) (x5_29 : Int32) (x6_29 : Int32) (H_29 : Heap) (k_29 : List Loc) (l_29 : Array Slot), Now D TB cy (va_A (va_pl L E) sz) s L τ E H_29 k_29 → (0 ≤ a2.toInt) → (a2.toInt ≤ 65) → (x5_29.toInt ≤ 9999) → (0 ≤ x6_29.toInt) → (x6_29.toInt ≤ 8) → (8 - x6_29.toInt).toNat < n → lv_has l_29 7 [(0, .ref a0), (1, .ref a1), (2, .int a2), (3, .int x3_29), (4, .int x4_29), (5, .int x5_29), (6, .int x6_29)] → W p l e { frames := 1, cells := 0, slots := 0, locals := 21 } s m args below meth c H_29 k_29 0 0 QQ (F0 m 29 l_29 []) := by
    intro n
    induction n with
    | zero => intro x3_29 x4_29 x5_29 x6_29 H_29 k_29 l_29 S_29 z1 z2 z3 z4 z5 hm hl_29; exact absurd hm (Nat.not_lt_zero _)
    | succ n ih =>
      intro x3_29 x4_29 x5_29 x6_29 H_29 k_29 l_29 S_29 z1 z2 z3 z4 z5 hm hl_29
      have ih_29 := ih
      have J87 : ∀ (x5_87 : Int32) (H_87 : Heap) (k_87 : List Loc) (l_87 : Array Slot), Now D TB cy (va_A (va_pl L E) sz) s L τ E H_87 k_87 → (0 ≤ a2.toInt) → (a2.toInt ≤ 65) → (x5_87.toInt ≤ 9999) → (0 ≤ x6_29.toInt) → (x6_29.toInt ≤ 7) → lv_has l_87 7 [(0, .ref a0), (1, .ref a1), (2, .int a2), (3, .int x3_29), (4, .int x4_29), (5, .int x5_87), (6, .int x6_29)] → W p l e { frames := 1, cells := 0, slots := 0, locals := 21 } s m args below meth c H_87 k_87 0 0 QQ (F0 m 87 l_87 []) := by
        intro x5_87 H_87 k_87 l_87 S_87 z6 z7 z8 z9 z10 hl_87
        obtain ⟨v11, ev11⟩ : ∃ y : Int32, x6_29 + Int32.ofInt (1) = y := ⟨_, rfl⟩
        have tv11 : v11.toInt = x6_29.toInt + (1) := by rw [← ev11]; exact (fb_addI (by rw [show (Int32.ofInt (1)).toInt = 1 from by decide +kernel]; omega) (by rw [show (Int32.ofInt (1)).toInt = 1 from by decide +kernel]; omega)).trans (by rw [show (Int32.ofInt (1)).toInt = 1 from by decide +kernel])
        refine lv_iinc (v := v11) (lv' := [(6, .int v11), (0, .ref a0), (1, .ref a1), (2, .int a2), (3, .int x3_29), (4, .int x4_29), (5, .int x5_87)]) hx hb dX6_head_87 hl_87 (k := 6) rfl ev11 (by decide) rfl (fun l12 hl13 => ?_)
        refine lv_goto (tgt := 29) hx hb dX6_head_90 (by decide) ?_
        exact ih_29 x3_29 x4_29 x5_87 v11 H_87 k_87 l12 S_87 (by omega) (by omega) (by omega) (by omega) (by omega) (by omega) (lv_sub hl13 [1, 2, 3, 4, 5, 6, 0] rfl)
      refine lv_iload hx hb dX6_head_29 (lv_at hl_29 6 rfl) ?_
      refine lv_aload_n hx hb dX6_head_31 rfl (lv_at hl_29 1 rfl) ?_
      refine tr_geti Z.1 Z.2.2.2.1 S_29.1 S_29.2 ha1 ta1 rfl rfl (fun _ h => List.mem_cons_of_mem _ (List.mem_append_right _ h)) 6 (by decide) rfl (hts _ (List.mem_of_getElem? (i := 2) rfl)) dX6_head_32 (fun v14 ev14 lv14 uv14 => ?_)
      refine lv_icmp_ge (tgt := 93) hx hb dX6_head_35 (by decide) (fun c15 => ?_) (fun c15 => ?_)
      · skip
        have tc15 := nu_le c15
        refine lv_iload hx hb dX6_head_93 (lv_at hl_29 5 rfl) ?_
        rw [← hQ]
        exact en_i Z S_29 F0_ rfl dX6_head_95
      · skip
        have tc15 := nu_nle c15
        refine lv_iload_n hx hb dX6_head_38 rfl (lv_at hl_29 3 rfl) ?_
        refine lv_aload_n hx hb dX6_head_39 rfl (lv_at hl_29 1 rfl) ?_
        refine tr_getr Z.1 Z.2.2.2.1 S_29.1 S_29.2 ha1 ta1 rfl rfl (fun _ h => List.mem_cons_of_mem _ (List.mem_append_right _ h)) 11 (by decide) rfl (hts _ (List.mem_of_getElem? (i := 3) rfl)) dX6_head_40 (fun q16 eq16 hq16 tq16 => ?_)
        have tq16 : τ q16 = (23, 0) := tq16
        refine lv_iload hx hb dX6_head_43 (lv_at hl_29 6 rfl) ?_
        refine tr_iald Z.1 Z.2.2.2.1 S_29.1 S_29.2 hq16 tq16 rfl (by omega) (by omega) dX6_head_45 (fun v17 ev17 lv17 uv17 => ?_)
        refine va_mmax hx hb (Z.1.2.2.1.trans hl_29.1.symm) Z.1.2.2.2.1 (hts _ (List.mem_of_getElem? (i := 4) rfl)) (hts _ (List.mem_of_getElem? (i := 5) rfl)) (hts _ (List.mem_of_getElem? (i := 6) rfl)) (hts _ (List.mem_of_getElem? (i := 7) rfl)) (Nat.le_of_ble_eq_true rfl) (Nat.le_of_ble_eq_true rfl) (Nat.zero_le _) (Nat.zero_le _) dX6_head_46 ?_
        refine lv_topi (fun v18 ev18 => ?_)
        have tv18 := nu_max ev18
        refine lv_iload hx hb dX6_head_49 (lv_at hl_29 4 rfl) ?_
        refine lv_aload_n hx hb dX6_head_51 rfl (lv_at hl_29 1 rfl) ?_
        refine tr_getr Z.1 Z.2.2.2.1 S_29.1 S_29.2 ha1 ta1 rfl rfl (fun _ h => List.mem_cons_of_mem _ (List.mem_append_right _ h)) 12 (by decide) rfl (hts _ (List.mem_of_getElem? (i := 8) rfl)) dX6_head_52 (fun q19 eq19 hq19 tq19 => ?_)
        have tq19 : τ q19 = (24, 0) := tq19
        refine lv_iload hx hb dX6_head_55 (lv_at hl_29 6 rfl) ?_
        refine tr_iald Z.1 Z.2.2.2.1 S_29.1 S_29.2 hq19 tq19 rfl (by omega) (by omega) dX6_head_57 (fun v20 ev20 lv20 uv20 => ?_)
        refine va_mmin hx hb (Z.1.2.2.1.trans hl_29.1.symm) Z.1.2.2.2.1 (hts _ (List.mem_of_getElem? (i := 9) rfl)) (hts _ (List.mem_of_getElem? (i := 10) rfl)) (hts _ (List.mem_of_getElem? (i := 6) rfl)) (hts _ (List.mem_of_getElem? (i := 11) rfl)) (Nat.le_of_ble_eq_true rfl) (Nat.le_of_ble_eq_true rfl) (Nat.zero_le _) (Nat.zero_le _) dX6_head_58 ?_
        refine lv_topi (fun v21 ev21 => ?_)
        have tv21 := nu_min ev21
        refine lv_icmp_ge (tgt := 87) hx hb dX6_head_61 (by decide) (fun c22 => ?_) (fun c22 => ?_)
        · skip
          have tc22 := nu_le c22
          exact J87 x5_29 H_29 k_29 l_29 S_29 (by omega) (by omega) (by omega) (by omega) (by omega) (lv_sub hl_29 [0, 1, 2, 3, 4, 5, 6] rfl)
        · skip
          have tc22 := nu_nle c22
          refine lv_iload hx hb dX6_head_64 (lv_at hl_29 5 rfl) ?_
          refine lv_aload_n hx hb dX6_head_66 rfl (lv_at hl_29 1 rfl) ?_
          refine tr_getr Z.1 Z.2.2.2.1 S_29.1 S_29.2 ha1 ta1 rfl rfl (fun _ h => List.mem_cons_of_mem _ (List.mem_append_right _ h)) 13 (by decide) rfl (hts _ (List.mem_of_getElem? (i := 12) rfl)) dX6_head_67 (fun q23 eq23 hq23 tq23 => ?_)
          have tq23 : τ q23 = (25, 0) := tq23
          refine lv_iload hx hb dX6_head_70 (lv_at hl_29 6 rfl) ?_
          refine tr_iald Z.1 Z.2.2.2.1 S_29.1 S_29.2 hq23 tq23 rfl (by omega) (by omega) dX6_head_72 (fun v24 ev24 lv24 uv24 => ?_)
          refine lv_aload_n hx hb dX6_head_73 rfl (lv_at hl_29 0 rfl) ?_
          refine tr_getr Z.1 Z.2.2.2.1 S_29.1 S_29.2 ha0 ta0 rfl rfl (fun _ h => List.mem_cons_of_mem _ (List.mem_append_left _ (List.mem_append_right _ h))) 0 (by decide) rfl (hts _ (List.mem_of_getElem? (i := 1) rfl)) dX6_head_74 (fun q25 eq25 hq25 tq25 => ?_)
          have tq25 : τ q25 = (30, 0) := tq25
          obtain ⟨v26, ev26, tv26⟩ : ∃ v : Int32, Int32.ofInt (2) = v ∧ v.toInt = 2 := ⟨_, rfl, by decide +kernel⟩
          refine lv_iconst hx hb dX6_head_77 ev26 ?_
          refine tr_aaldr (ra := 102) (rb := 0) Z.1 Z.2.2.2.1 S_29.1 S_29.2 hq25 tq25 rfl (row_at (w := 2) (by omega)) rfl rfl (by omega) (by omega) dX6_head_78 (fun q27 eq27 hq27 tq27 => ?_)
          have tq27 : τ q27 = (102, 0) := tq27
          refine lv_iload_n hx hb dX6_head_79 rfl (lv_at hl_29 2 rfl) ?_
          refine tr_iald Z.1 Z.2.2.2.1 S_29.1 S_29.2 hq27 tq27 rfl (by omega) (by omega) dX6_head_80 (fun v28 ev28 lv28 uv28 => ?_)
          refine lv_isub hx hb dX6_head_81 ?_
          refine lv_topi (fun v29 ev29 => ?_)
          refine va_mmin hx hb (Z.1.2.2.1.trans hl_29.1.symm) Z.1.2.2.2.1 (hts _ (List.mem_of_getElem? (i := 9) rfl)) (hts _ (List.mem_of_getElem? (i := 10) rfl)) (hts _ (List.mem_of_getElem? (i := 6) rfl)) (hts _ (List.mem_of_getElem? (i := 11) rfl)) (Nat.le_of_ble_eq_true rfl) (Nat.le_of_ble_eq_true rfl) (Nat.zero_le _) (Nat.zero_le _) dX6_head_82 ?_
          refine lv_topi (fun v30 ev30 => ?_)
          have tv30 := nu_min ev30
          refine lv_istore (lv' := [(5, .int v30), (0, .ref a0), (1, .ref a1), (2, .int a2), (3, .int x3_29), (4, .int x4_29), (6, .int x6_29)]) hx hb dX6_head_85 hl_29 (by decide) rfl (fun l31 hl32 => ?_)
          exact J87 v30 H_29 k_29 l31 S_29 (by omega) (by omega) (by omega) (by omega) (by omega) (lv_sub hl32 [1, 2, 3, 4, 5, 0, 6] rfl)
  refine lv_aload_n hx hb dX6_head_0 rfl (lv_at hl 0 rfl) ?_
  refine tr_getr Z.1 Z.2.2.2.1 S0.1 S0.2 ha0 ta0 rfl rfl (fun _ h => List.mem_cons_of_mem _ (List.mem_append_left _ (List.mem_append_right _ h))) 0 (by decide) rfl (hts _ (List.mem_of_getElem? (i := 1) rfl)) dX6_head_1 (fun q33 eq33 hq33 tq33 => ?_)
  have tq33 : τ q33 = (30, 0) := tq33
  obtain ⟨v34, ev34, tv34⟩ : ∃ v : Int32, Int32.ofInt (5) = v ∧ v.toInt = 5 := ⟨_, rfl, by decide +kernel⟩
  refine lv_iconst hx hb dX6_head_4 ev34 ?_
  refine tr_aaldr (ra := 105) (rb := 0) Z.1 Z.2.2.2.1 S0.1 S0.2 hq33 tq33 rfl (row_at (w := 5) (by omega)) rfl rfl (by omega) (by omega) dX6_head_5 (fun q35 eq35 hq35 tq35 => ?_)
  have tq35 : τ q35 = (105, 0) := tq35
  refine lv_iload_n hx hb dX6_head_6 rfl (lv_at hl 2 rfl) ?_
  refine tr_iald Z.1 Z.2.2.2.1 S0.1 S0.2 hq35 tq35 rfl (by omega) (by omega) dX6_head_7 (fun v36 ev36 lv36 uv36 => ?_)
  refine lv_istore_n (lv' := [(3, .int v36), (0, .ref a0), (1, .ref a1), (2, .int a2)]) hx hb dX6_head_8 rfl hl (by decide) rfl (fun l37 hl38 => ?_)
  refine lv_iload_n hx hb dX6_head_9 rfl (lv_at hl38 0 rfl) ?_
  refine lv_aload_n hx hb dX6_head_10 rfl (lv_at hl38 1 rfl) ?_
  refine tr_getr Z.1 Z.2.2.2.1 S0.1 S0.2 ha0 ta0 rfl rfl (fun _ h => List.mem_cons_of_mem _ (List.mem_append_left _ (List.mem_append_right _ h))) 0 (by decide) rfl (hts _ (List.mem_of_getElem? (i := 1) rfl)) dX6_head_11 (fun q39 eq39 hq39 tq39 => ?_)
  have tq39 : τ q39 = (30, 0) := tq39
  have uq39 : q33 = q39 := S0.2.2.2.2 _ hq33 _ hq39 (tq33.trans tq39.symm) (by rw [tq33]; rfl)
  subst uq39
  obtain ⟨v40, ev40, tv40⟩ : ∃ v : Int32, Int32.ofInt (3) = v ∧ v.toInt = 3 := ⟨_, rfl, by decide +kernel⟩
  refine lv_iconst hx hb dX6_head_14 ev40 ?_
  refine tr_aaldr (ra := 103) (rb := 0) Z.1 Z.2.2.2.1 S0.1 S0.2 hq33 tq33 rfl (row_at (w := 3) (by omega)) rfl rfl (by omega) (by omega) dX6_head_15 (fun q41 eq41 hq41 tq41 => ?_)
  have tq41 : τ q41 = (103, 0) := tq41
  refine lv_iload_n hx hb dX6_head_16 rfl (lv_at hl38 3 rfl) ?_
  refine tr_iald Z.1 Z.2.2.2.1 S0.1 S0.2 hq41 tq41 rfl (by omega) (by omega) dX6_head_17 (fun v42 ev42 lv42 uv42 => ?_)
  refine lv_iadd hx hb dX6_head_18 ?_
  refine lv_topi (fun v43 ev43 => ?_)
  refine lv_istore (lv' := [(4, .int v43), (3, .int v36), (0, .ref a0), (1, .ref a1), (2, .int a2)]) hx hb dX6_head_19 hl38 (by decide) rfl (fun l44 hl45 => ?_)
  obtain ⟨v46, ev46, tv46⟩ : ∃ v : Int32, (Int16.ofInt (9999)).toInt32 = v ∧ v.toInt = 9999 := ⟨_, rfl, by decide +kernel⟩
  refine lv_sipush hx hb dX6_head_21 ev46 ?_
  refine lv_istore (lv' := [(5, .int v46), (4, .int v43), (3, .int v36), (0, .ref a0), (1, .ref a1), (2, .int a2)]) hx hb dX6_head_24 hl45 (by decide) rfl (fun l47 hl48 => ?_)
  obtain ⟨v49, ev49, tv49⟩ : ∃ v : Int32, Int32.ofInt (0) = v ∧ v.toInt = 0 := ⟨_, rfl, by decide +kernel⟩
  refine lv_iconst hx hb dX6_head_26 ev49 ?_
  refine lv_istore (lv' := [(6, .int v49), (5, .int v46), (4, .int v43), (3, .int v36), (0, .ref a0), (1, .ref a1), (2, .int a2)]) hx hb dX6_head_27 hl48 (by decide) rfl (fun l50 hl51 => ?_)
  exact J29 _ v36 v43 v46 v49 s.heap [] l50 S0 (by omega) (by omega) (by omega) (by omega) (by omega) (Nat.lt_succ_self _) (lv_sub hl51 [4, 5, 6, 3, 2, 1, 0] rfl)

set_option maxHeartbeats 4000000 in
set_option maxRecDepth 100000 in
theorem k_X6_head_v1 (l : Launch) (D : va_G) (cy : Nat → ClassId) {L : List Nat} {τ : Nat → Ro} {E : Ec} (hI : Inv TB cy L τ E) {a0 : Nat} (ha0 : a0 ∈ L) (ta0 : τ a0 = (5, 1)) {a1 : Nat} (ha1 : a1 ∈ L) (ta1 : τ a1 = (1, 2)) (a2 : Int32) (la2 : 0 ≤ a2.toInt) (ua2 : a2.toInt ≤ 65) : CtI l yX6_head wsX6_head { frames := 1, cells := 0, slots := 0, locals := 21 } D TB cy L τ E [.ref a0, .ref a1, .int a2] (inW []) (fun r E' => E' = E) := by
  intro sz
  refine sta (cc := cX6_head) (maxL := 7) hI (by decide) rfl (Nat.le_of_ble_eq_true rfl) (fun p e s m args below meth c ls hsz Z S0 hl => ?_)
  have hx := Z.1.1
  have hb := Z.1.2.1
  have hts := Z.1.2.2.2.2
  have F0_ : Fr L τ (inW []) E E := Fr.refl
  have hl : lv_has ls 7 [(0, .ref a0), (1, .ref a1), (2, .int a2)] := hl
  generalize hQ : MQ below _ args s 0 0 _ = QQ
  have J29 : ∀ (n : Nat) (x3_29 : Int32) (x4_29 : Int32) (x5_29 : Int32) (x6_29 : Int32) (H_29 : Heap) (k_29 : List Loc) (l_29 : Array Slot), Now D TB cy (va_A (va_pl L E) sz) s L τ E H_29 k_29 → (0 ≤ a2.toInt) → (a2.toInt ≤ 65) → (x5_29.toInt ≤ 9999) → (0 ≤ x6_29.toInt) → (x6_29.toInt ≤ 8) → (8 - x6_29.toInt).toNat < n → lv_has l_29 7 [(0, .ref a0), (1, .ref a1), (2, .int a2), (3, .int x3_29), (4, .int x4_29), (5, .int x5_29), (6, .int x6_29)] → W p l e { frames := 1, cells := 0, slots := 0, locals := 21 } s m args below meth c H_29 k_29 0 0 QQ (F0 m 29 l_29 []) := by
    intro n
    induction n with
    | zero => intro x3_29 x4_29 x5_29 x6_29 H_29 k_29 l_29 S_29 z1 z2 z3 z4 z5 hm hl_29; exact absurd hm (Nat.not_lt_zero _)
    | succ n ih =>
      intro x3_29 x4_29 x5_29 x6_29 H_29 k_29 l_29 S_29 z1 z2 z3 z4 z5 hm hl_29
      have ih_29 := ih
      have J87 : ∀ (x5_87 : Int32) (H_87 : Heap) (k_87 : List Loc) (l_87 : Array Slot), Now D TB cy (va_A (va_pl L E) sz) s L τ E H_87 k_87 → (0 ≤ a2.toInt) → (a2.toInt ≤ 65) → (x5_87.toInt ≤ 9999) → (0 ≤ x6_29.toInt) → (x6_29.toInt ≤ 7) → lv_has l_87 7 [(0, .ref a0), (1, .ref a1), (2, .int a2), (3, .int x3_29), (4, .int x4_29), (5, .int x5_87), (6, .int x6_29)] → W p l e { frames := 1, cells := 0, slots := 0, locals := 21 } s m args below meth c H_87 k_87 0 0 QQ (F0 m 87 l_87 []) := by
        intro x5_87 H_87 k_87 l_87 S_87 z6 z7 z8 z9 z10 hl_87
        obtain ⟨v11, ev11⟩ : ∃ y : Int32, x6_29 + Int32.ofInt (1) = y := ⟨_, rfl⟩
        have tv11 : v11.toInt = x6_29.toInt + (1) := by rw [← ev11]; exact (fb_addI (by rw [show (Int32.ofInt (1)).toInt = 1 from by decide +kernel]; omega) (by rw [show (Int32.ofInt (1)).toInt = 1 from by decide +kernel]; omega)).trans (by rw [show (Int32.ofInt (1)).toInt = 1 from by decide +kernel])
        refine lv_iinc (v := v11) (lv' := [(6, .int v11), (0, .ref a0), (1, .ref a1), (2, .int a2), (3, .int x3_29), (4, .int x4_29), (5, .int x5_87)]) hx hb dX6_head_87 hl_87 (k := 6) rfl ev11 (by decide) rfl (fun l12 hl13 => ?_)
        refine lv_goto (tgt := 29) hx hb dX6_head_90 (by decide) ?_
        exact ih_29 x3_29 x4_29 x5_87 v11 H_87 k_87 l12 S_87 (by omega) (by omega) (by omega) (by omega) (by omega) (by omega) (lv_sub hl13 [1, 2, 3, 4, 5, 6, 0] rfl)
      refine lv_iload hx hb dX6_head_29 (lv_at hl_29 6 rfl) ?_
      refine lv_aload_n hx hb dX6_head_31 rfl (lv_at hl_29 1 rfl) ?_
      refine tr_geti Z.1 Z.2.2.2.1 S_29.1 S_29.2 ha1 ta1 rfl rfl (fun _ h => List.mem_cons_of_mem _ (List.mem_append_right _ h)) 6 (by decide) rfl (hts _ (List.mem_of_getElem? (i := 2) rfl)) dX6_head_32 (fun v14 ev14 lv14 uv14 => ?_)
      refine lv_icmp_ge (tgt := 93) hx hb dX6_head_35 (by decide) (fun c15 => ?_) (fun c15 => ?_)
      · skip
        have tc15 := nu_le c15
        refine lv_iload hx hb dX6_head_93 (lv_at hl_29 5 rfl) ?_
        rw [← hQ]
        exact en_i Z S_29 F0_ rfl dX6_head_95
      · skip
        have tc15 := nu_nle c15
        refine lv_iload_n hx hb dX6_head_38 rfl (lv_at hl_29 3 rfl) ?_
        refine lv_aload_n hx hb dX6_head_39 rfl (lv_at hl_29 1 rfl) ?_
        refine tr_getr Z.1 Z.2.2.2.1 S_29.1 S_29.2 ha1 ta1 rfl rfl (fun _ h => List.mem_cons_of_mem _ (List.mem_append_right _ h)) 11 (by decide) rfl (hts _ (List.mem_of_getElem? (i := 3) rfl)) dX6_head_40 (fun q16 eq16 hq16 tq16 => ?_)
        have tq16 : τ q16 = (23, 2) := tq16
        refine lv_iload hx hb dX6_head_43 (lv_at hl_29 6 rfl) ?_
        refine tr_iald Z.1 Z.2.2.2.1 S_29.1 S_29.2 hq16 tq16 rfl (by omega) (by omega) dX6_head_45 (fun v17 ev17 lv17 uv17 => ?_)
        refine va_mmax hx hb (Z.1.2.2.1.trans hl_29.1.symm) Z.1.2.2.2.1 (hts _ (List.mem_of_getElem? (i := 4) rfl)) (hts _ (List.mem_of_getElem? (i := 5) rfl)) (hts _ (List.mem_of_getElem? (i := 6) rfl)) (hts _ (List.mem_of_getElem? (i := 7) rfl)) (Nat.le_of_ble_eq_true rfl) (Nat.le_of_ble_eq_true rfl) (Nat.zero_le _) (Nat.zero_le _) dX6_head_46 ?_
        refine lv_topi (fun v18 ev18 => ?_)
        have tv18 := nu_max ev18
        refine lv_iload hx hb dX6_head_49 (lv_at hl_29 4 rfl) ?_
        refine lv_aload_n hx hb dX6_head_51 rfl (lv_at hl_29 1 rfl) ?_
        refine tr_getr Z.1 Z.2.2.2.1 S_29.1 S_29.2 ha1 ta1 rfl rfl (fun _ h => List.mem_cons_of_mem _ (List.mem_append_right _ h)) 12 (by decide) rfl (hts _ (List.mem_of_getElem? (i := 8) rfl)) dX6_head_52 (fun q19 eq19 hq19 tq19 => ?_)
        have tq19 : τ q19 = (24, 2) := tq19
        refine lv_iload hx hb dX6_head_55 (lv_at hl_29 6 rfl) ?_
        refine tr_iald Z.1 Z.2.2.2.1 S_29.1 S_29.2 hq19 tq19 rfl (by omega) (by omega) dX6_head_57 (fun v20 ev20 lv20 uv20 => ?_)
        refine va_mmin hx hb (Z.1.2.2.1.trans hl_29.1.symm) Z.1.2.2.2.1 (hts _ (List.mem_of_getElem? (i := 9) rfl)) (hts _ (List.mem_of_getElem? (i := 10) rfl)) (hts _ (List.mem_of_getElem? (i := 6) rfl)) (hts _ (List.mem_of_getElem? (i := 11) rfl)) (Nat.le_of_ble_eq_true rfl) (Nat.le_of_ble_eq_true rfl) (Nat.zero_le _) (Nat.zero_le _) dX6_head_58 ?_
        refine lv_topi (fun v21 ev21 => ?_)
        have tv21 := nu_min ev21
        refine lv_icmp_ge (tgt := 87) hx hb dX6_head_61 (by decide) (fun c22 => ?_) (fun c22 => ?_)
        · skip
          have tc22 := nu_le c22
          exact J87 x5_29 H_29 k_29 l_29 S_29 (by omega) (by omega) (by omega) (by omega) (by omega) (lv_sub hl_29 [0, 1, 2, 3, 4, 5, 6] rfl)
        · skip
          have tc22 := nu_nle c22
          refine lv_iload hx hb dX6_head_64 (lv_at hl_29 5 rfl) ?_
          refine lv_aload_n hx hb dX6_head_66 rfl (lv_at hl_29 1 rfl) ?_
          refine tr_getr Z.1 Z.2.2.2.1 S_29.1 S_29.2 ha1 ta1 rfl rfl (fun _ h => List.mem_cons_of_mem _ (List.mem_append_right _ h)) 13 (by decide) rfl (hts _ (List.mem_of_getElem? (i := 12) rfl)) dX6_head_67 (fun q23 eq23 hq23 tq23 => ?_)
          have tq23 : τ q23 = (25, 2) := tq23
          refine lv_iload hx hb dX6_head_70 (lv_at hl_29 6 rfl) ?_
          refine tr_iald Z.1 Z.2.2.2.1 S_29.1 S_29.2 hq23 tq23 rfl (by omega) (by omega) dX6_head_72 (fun v24 ev24 lv24 uv24 => ?_)
          refine lv_aload_n hx hb dX6_head_73 rfl (lv_at hl_29 0 rfl) ?_
          refine tr_getr Z.1 Z.2.2.2.1 S_29.1 S_29.2 ha0 ta0 rfl rfl (fun _ h => List.mem_cons_of_mem _ (List.mem_append_left _ (List.mem_append_right _ h))) 0 (by decide) rfl (hts _ (List.mem_of_getElem? (i := 1) rfl)) dX6_head_74 (fun q25 eq25 hq25 tq25 => ?_)
          have tq25 : τ q25 = (30, 1) := tq25
          obtain ⟨v26, ev26, tv26⟩ : ∃ v : Int32, Int32.ofInt (2) = v ∧ v.toInt = 2 := ⟨_, rfl, by decide +kernel⟩
          refine lv_iconst hx hb dX6_head_77 ev26 ?_
          refine tr_aaldr (ra := 102) (rb := 1) Z.1 Z.2.2.2.1 S_29.1 S_29.2 hq25 tq25 rfl (row_at (w := 2) (by omega)) rfl rfl (by omega) (by omega) dX6_head_78 (fun q27 eq27 hq27 tq27 => ?_)
          have tq27 : τ q27 = (102, 1) := tq27
          refine lv_iload_n hx hb dX6_head_79 rfl (lv_at hl_29 2 rfl) ?_
          refine tr_iald Z.1 Z.2.2.2.1 S_29.1 S_29.2 hq27 tq27 rfl (by omega) (by omega) dX6_head_80 (fun v28 ev28 lv28 uv28 => ?_)
          refine lv_isub hx hb dX6_head_81 ?_
          refine lv_topi (fun v29 ev29 => ?_)
          refine va_mmin hx hb (Z.1.2.2.1.trans hl_29.1.symm) Z.1.2.2.2.1 (hts _ (List.mem_of_getElem? (i := 9) rfl)) (hts _ (List.mem_of_getElem? (i := 10) rfl)) (hts _ (List.mem_of_getElem? (i := 6) rfl)) (hts _ (List.mem_of_getElem? (i := 11) rfl)) (Nat.le_of_ble_eq_true rfl) (Nat.le_of_ble_eq_true rfl) (Nat.zero_le _) (Nat.zero_le _) dX6_head_82 ?_
          refine lv_topi (fun v30 ev30 => ?_)
          have tv30 := nu_min ev30
          refine lv_istore (lv' := [(5, .int v30), (0, .ref a0), (1, .ref a1), (2, .int a2), (3, .int x3_29), (4, .int x4_29), (6, .int x6_29)]) hx hb dX6_head_85 hl_29 (by decide) rfl (fun l31 hl32 => ?_)
          exact J87 v30 H_29 k_29 l31 S_29 (by omega) (by omega) (by omega) (by omega) (by omega) (lv_sub hl32 [1, 2, 3, 4, 5, 0, 6] rfl)
  refine lv_aload_n hx hb dX6_head_0 rfl (lv_at hl 0 rfl) ?_
  refine tr_getr Z.1 Z.2.2.2.1 S0.1 S0.2 ha0 ta0 rfl rfl (fun _ h => List.mem_cons_of_mem _ (List.mem_append_left _ (List.mem_append_right _ h))) 0 (by decide) rfl (hts _ (List.mem_of_getElem? (i := 1) rfl)) dX6_head_1 (fun q33 eq33 hq33 tq33 => ?_)
  have tq33 : τ q33 = (30, 1) := tq33
  obtain ⟨v34, ev34, tv34⟩ : ∃ v : Int32, Int32.ofInt (5) = v ∧ v.toInt = 5 := ⟨_, rfl, by decide +kernel⟩
  refine lv_iconst hx hb dX6_head_4 ev34 ?_
  refine tr_aaldr (ra := 105) (rb := 1) Z.1 Z.2.2.2.1 S0.1 S0.2 hq33 tq33 rfl (row_at (w := 5) (by omega)) rfl rfl (by omega) (by omega) dX6_head_5 (fun q35 eq35 hq35 tq35 => ?_)
  have tq35 : τ q35 = (105, 1) := tq35
  refine lv_iload_n hx hb dX6_head_6 rfl (lv_at hl 2 rfl) ?_
  refine tr_iald Z.1 Z.2.2.2.1 S0.1 S0.2 hq35 tq35 rfl (by omega) (by omega) dX6_head_7 (fun v36 ev36 lv36 uv36 => ?_)
  refine lv_istore_n (lv' := [(3, .int v36), (0, .ref a0), (1, .ref a1), (2, .int a2)]) hx hb dX6_head_8 rfl hl (by decide) rfl (fun l37 hl38 => ?_)
  refine lv_iload_n hx hb dX6_head_9 rfl (lv_at hl38 0 rfl) ?_
  refine lv_aload_n hx hb dX6_head_10 rfl (lv_at hl38 1 rfl) ?_
  refine tr_getr Z.1 Z.2.2.2.1 S0.1 S0.2 ha0 ta0 rfl rfl (fun _ h => List.mem_cons_of_mem _ (List.mem_append_left _ (List.mem_append_right _ h))) 0 (by decide) rfl (hts _ (List.mem_of_getElem? (i := 1) rfl)) dX6_head_11 (fun q39 eq39 hq39 tq39 => ?_)
  have tq39 : τ q39 = (30, 1) := tq39
  have uq39 : q33 = q39 := S0.2.2.2.2 _ hq33 _ hq39 (tq33.trans tq39.symm) (by rw [tq33]; rfl)
  subst uq39
  obtain ⟨v40, ev40, tv40⟩ : ∃ v : Int32, Int32.ofInt (3) = v ∧ v.toInt = 3 := ⟨_, rfl, by decide +kernel⟩
  refine lv_iconst hx hb dX6_head_14 ev40 ?_
  refine tr_aaldr (ra := 103) (rb := 1) Z.1 Z.2.2.2.1 S0.1 S0.2 hq33 tq33 rfl (row_at (w := 3) (by omega)) rfl rfl (by omega) (by omega) dX6_head_15 (fun q41 eq41 hq41 tq41 => ?_)
  have tq41 : τ q41 = (103, 1) := tq41
  refine lv_iload_n hx hb dX6_head_16 rfl (lv_at hl38 3 rfl) ?_
  refine tr_iald Z.1 Z.2.2.2.1 S0.1 S0.2 hq41 tq41 rfl (by omega) (by omega) dX6_head_17 (fun v42 ev42 lv42 uv42 => ?_)
  refine lv_iadd hx hb dX6_head_18 ?_
  refine lv_topi (fun v43 ev43 => ?_)
  refine lv_istore (lv' := [(4, .int v43), (3, .int v36), (0, .ref a0), (1, .ref a1), (2, .int a2)]) hx hb dX6_head_19 hl38 (by decide) rfl (fun l44 hl45 => ?_)
  obtain ⟨v46, ev46, tv46⟩ : ∃ v : Int32, (Int16.ofInt (9999)).toInt32 = v ∧ v.toInt = 9999 := ⟨_, rfl, by decide +kernel⟩
  refine lv_sipush hx hb dX6_head_21 ev46 ?_
  refine lv_istore (lv' := [(5, .int v46), (4, .int v43), (3, .int v36), (0, .ref a0), (1, .ref a1), (2, .int a2)]) hx hb dX6_head_24 hl45 (by decide) rfl (fun l47 hl48 => ?_)
  obtain ⟨v49, ev49, tv49⟩ : ∃ v : Int32, Int32.ofInt (0) = v ∧ v.toInt = 0 := ⟨_, rfl, by decide +kernel⟩
  refine lv_iconst hx hb dX6_head_26 ev49 ?_
  refine lv_istore (lv' := [(6, .int v49), (5, .int v46), (4, .int v43), (3, .int v36), (0, .ref a0), (1, .ref a1), (2, .int a2)]) hx hb dX6_head_27 hl48 (by decide) rfl (fun l50 hl51 => ?_)
  exact J29 _ v36 v43 v46 v49 s.heap [] l50 S0 (by omega) (by omega) (by omega) (by omega) (by omega) (Nat.lt_succ_self _) (lv_sub hl51 [4, 5, 6, 3, 2, 1, 0] rfl)

theorem dX6_cost_0 : decode cX6_cost 0 = .ok (.aload_n 0, 1) := by decide +kernel
theorem dX6_cost_1 : decode cX6_cost 1 = .ok (.getfield 20, 3) := by decide +kernel
theorem dX6_cost_4 : decode cX6_cost 4 = .ok (.aload_n 1, 1) := by decide +kernel
theorem dX6_cost_5 : decode cX6_cost 5 = .ok (.getfield 115, 3) := by decide +kernel
theorem dX6_cost_8 : decode cX6_cost 8 = .ok (.iconst 4, 1) := by decide +kernel
theorem dX6_cost_9 : decode cX6_cost 9 = .ok (.iaload, 1) := by decide +kernel
theorem dX6_cost_10 : decode cX6_cost 10 = .ok (.imul, 1) := by decide +kernel
theorem dX6_cost_11 : decode cX6_cost 11 = .ok (.istore_n 2, 1) := by decide +kernel
theorem dX6_cost_12 : decode cX6_cost 12 = .ok (.iconst 0, 1) := by decide +kernel
theorem dX6_cost_13 : decode cX6_cost 13 = .ok (.istore_n 3, 1) := by decide +kernel
theorem dX6_cost_14 : decode cX6_cost 14 = .ok (.iload_n 3, 1) := by decide +kernel
theorem dX6_cost_15 : decode cX6_cost 15 = .ok (.aload_n 0, 1) := by decide +kernel
theorem dX6_cost_16 : decode cX6_cost 16 = .ok (.getfield 16, 3) := by decide +kernel
theorem dX6_cost_19 : decode cX6_cost 19 = .ok (.if_icmp .ge 25, 3) := by decide +kernel
theorem dX6_cost_22 : decode cX6_cost 22 = .ok (.iload_n 2, 1) := by decide +kernel
theorem dX6_cost_23 : decode cX6_cost 23 = .ok (.aload_n 1, 1) := by decide +kernel
theorem dX6_cost_24 : decode cX6_cost 24 = .ok (.getfield 115, 3) := by decide +kernel
theorem dX6_cost_27 : decode cX6_cost 27 = .ok (.aload_n 0, 1) := by decide +kernel
theorem dX6_cost_28 : decode cX6_cost 28 = .ok (.getfield 13, 3) := by decide +kernel
theorem dX6_cost_31 : decode cX6_cost 31 = .ok (.iconst 0, 1) := by decide +kernel
theorem dX6_cost_32 : decode cX6_cost 32 = .ok (.aaload, 1) := by decide +kernel
theorem dX6_cost_33 : decode cX6_cost 33 = .ok (.iload_n 3, 1) := by decide +kernel
theorem dX6_cost_34 : decode cX6_cost 34 = .ok (.iaload, 1) := by decide +kernel
theorem dX6_cost_35 : decode cX6_cost 35 = .ok (.iaload, 1) := by decide +kernel
theorem dX6_cost_36 : decode cX6_cost 36 = .ok (.iadd, 1) := by decide +kernel
theorem dX6_cost_37 : decode cX6_cost 37 = .ok (.istore_n 2, 1) := by decide +kernel
theorem dX6_cost_38 : decode cX6_cost 38 = .ok (.iinc 3 1, 3) := by decide +kernel
theorem dX6_cost_41 : decode cX6_cost 41 = .ok (.goto (-27), 3) := by decide +kernel
theorem dX6_cost_44 : decode cX6_cost 44 = .ok (.iload_n 2, 1) := by decide +kernel
theorem dX6_cost_45 : decode cX6_cost 45 = .ok (.ireturn, 1) := by decide +kernel
set_option maxHeartbeats 4000000 in
set_option maxRecDepth 100000 in
theorem k_X6_cost_v0 (l : Launch) (D : va_G) (cy : Nat → ClassId) {L : List Nat} {τ : Nat → Ro} {E : Ec} (hI : Inv TB cy L τ E) {a0 : Nat} (ha0 : a0 ∈ L) (ta0 : τ a0 = (5, 0)) {a1 : Nat} (ha1 : a1 ∈ L) (ta1 : τ a1 = (1, 0)) : CtI l yX6_cost wsX6_cost { frames := 0, cells := 0, slots := 0, locals := 0 } D TB cy L τ E [.ref a0, .ref a1] (inW []) (fun r E' => E' = E) := by
  intro sz
  refine sta (cc := cX6_cost) (maxL := 4) hI (by decide) rfl (Nat.le_of_ble_eq_true rfl) (fun p e s m args below meth c ls hsz Z S0 hl => ?_)
  have hx := Z.1.1
  have hb := Z.1.2.1
  have hts := Z.1.2.2.2.2
  have F0_ : Fr L τ (inW []) E E := Fr.refl
  have hl : lv_has ls 4 [(0, .ref a0), (1, .ref a1)] := hl
  generalize hQ : MQ below _ args s 0 0 _ = QQ
  have J14 : ∀ (n : Nat) (x2_14 : Int32) (x3_14 : Int32) (H_14 : Heap) (k_14 : List Loc) (l_14 : Array Slot), Now D TB cy (va_A (va_pl L E) sz) s L τ E H_14 k_14 → (0 ≤ x3_14.toInt) → (x3_14.toInt ≤ 66) → (66 - x3_14.toInt).toNat < n → lv_has l_14 4 [(0, .ref a0), (1, .ref a1), (2, .int x2_14), (3, .int x3_14)] → W p l e { frames := 0, cells := 0, slots := 0, locals := 0 } s m args below meth c H_14 k_14 0 0 QQ (F0 m 14 l_14 []) := by
    intro n
    induction n with
    | zero => intro x2_14 x3_14 H_14 k_14 l_14 S_14 z1 z2 hm hl_14; exact absurd hm (Nat.not_lt_zero _)
    | succ n ih =>
      intro x2_14 x3_14 H_14 k_14 l_14 S_14 z1 z2 hm hl_14
      have ih_14 := ih
      refine lv_iload_n hx hb dX6_cost_14 rfl (lv_at hl_14 3 rfl) ?_
      refine lv_aload_n hx hb dX6_cost_15 rfl (lv_at hl_14 0 rfl) ?_
      refine tr_geti Z.1 Z.2.2.2.1 S_14.1 S_14.2 ha0 ta0 rfl rfl (fun _ h => List.mem_cons_of_mem _ (List.mem_append_left _ (List.mem_append_right _ h))) 1 (by decide) rfl (hts _ (List.mem_of_getElem? (i := 3) rfl)) dX6_cost_16 (fun v3 ev3 lv3 uv3 => ?_)
      refine lv_icmp_ge (tgt := 44) hx hb dX6_cost_19 (by decide) (fun c4 => ?_) (fun c4 => ?_)
      · skip
        have tc4 := nu_le c4
        refine lv_iload_n hx hb dX6_cost_44 rfl (lv_at hl_14 2 rfl) ?_
        rw [← hQ]
        exact en_i Z S_14 F0_ rfl dX6_cost_45
      · skip
        have tc4 := nu_nle c4
        refine lv_iload_n hx hb dX6_cost_22 rfl (lv_at hl_14 2 rfl) ?_
        refine lv_aload_n hx hb dX6_cost_23 rfl (lv_at hl_14 1 rfl) ?_
        refine tr_getr Z.1 Z.2.2.2.1 S_14.1 S_14.2 ha1 ta1 rfl rfl (fun _ h => List.mem_cons_of_mem _ (List.mem_append_right _ h)) 14 (by decide) rfl (hts _ (List.mem_of_getElem? (i := 2) rfl)) dX6_cost_24 (fun q5 eq5 hq5 tq5 => ?_)
        have tq5 : τ q5 = (26, 0) := tq5
        refine lv_aload_n hx hb dX6_cost_27 rfl (lv_at hl_14 0 rfl) ?_
        refine tr_getr Z.1 Z.2.2.2.1 S_14.1 S_14.2 ha0 ta0 rfl rfl (fun _ h => List.mem_cons_of_mem _ (List.mem_append_left _ (List.mem_append_right _ h))) 0 (by decide) rfl (hts _ (List.mem_of_getElem? (i := 4) rfl)) dX6_cost_28 (fun q6 eq6 hq6 tq6 => ?_)
        have tq6 : τ q6 = (30, 0) := tq6
        obtain ⟨v7, ev7, tv7⟩ : ∃ v : Int32, Int32.ofInt (0) = v ∧ v.toInt = 0 := ⟨_, rfl, by decide +kernel⟩
        refine lv_iconst hx hb dX6_cost_31 ev7 ?_
        refine tr_aaldr (ra := 100) (rb := 0) Z.1 Z.2.2.2.1 S_14.1 S_14.2 hq6 tq6 rfl (row_at (w := 0) (by omega)) rfl rfl (by omega) (by omega) dX6_cost_32 (fun q8 eq8 hq8 tq8 => ?_)
        have tq8 : τ q8 = (100, 0) := tq8
        refine lv_iload_n hx hb dX6_cost_33 rfl (lv_at hl_14 3 rfl) ?_
        refine tr_iald Z.1 Z.2.2.2.1 S_14.1 S_14.2 hq8 tq8 rfl (by omega) (by omega) dX6_cost_34 (fun v9 ev9 lv9 uv9 => ?_)
        refine tr_iald Z.1 Z.2.2.2.1 S_14.1 S_14.2 hq5 tq5 rfl (by omega) (by omega) dX6_cost_35 (fun v10 ev10 lv10 uv10 => ?_)
        refine lv_iadd hx hb dX6_cost_36 ?_
        refine lv_topi (fun v11 ev11 => ?_)
        refine lv_istore_n (lv' := [(2, .int v11), (0, .ref a0), (1, .ref a1), (3, .int x3_14)]) hx hb dX6_cost_37 rfl hl_14 (by decide) rfl (fun l12 hl13 => ?_)
        obtain ⟨v14, ev14⟩ : ∃ y : Int32, x3_14 + Int32.ofInt (1) = y := ⟨_, rfl⟩
        have tv14 : v14.toInt = x3_14.toInt + (1) := by rw [← ev14]; exact (fb_addI (by rw [show (Int32.ofInt (1)).toInt = 1 from by decide +kernel]; omega) (by rw [show (Int32.ofInt (1)).toInt = 1 from by decide +kernel]; omega)).trans (by rw [show (Int32.ofInt (1)).toInt = 1 from by decide +kernel])
        refine lv_iinc (v := v14) (lv' := [(3, .int v14), (2, .int v11), (0, .ref a0), (1, .ref a1)]) hx hb dX6_cost_38 hl13 (k := 3) rfl ev14 (by decide) rfl (fun l15 hl16 => ?_)
        refine lv_goto (tgt := 14) hx hb dX6_cost_41 (by decide) ?_
        exact ih_14 v11 v14 H_14 k_14 l15 S_14 (by omega) (by omega) (by omega) (lv_sub hl16 [2, 3, 1, 0] rfl)
  refine lv_aload_n hx hb dX6_cost_0 rfl (lv_at hl 0 rfl) ?_
  refine tr_geti Z.1 Z.2.2.2.1 S0.1 S0.2 ha0 ta0 rfl rfl (fun _ h => List.mem_cons_of_mem _ (List.mem_append_left _ (List.mem_append_right _ h))) 2 (by decide) rfl (hts _ (List.mem_of_getElem? (i := 1) rfl)) dX6_cost_1 (fun v17 ev17 lv17 uv17 => ?_)
  refine lv_aload_n hx hb dX6_cost_4 rfl (lv_at hl 1 rfl) ?_
  refine tr_getr Z.1 Z.2.2.2.1 S0.1 S0.2 ha1 ta1 rfl rfl (fun _ h => List.mem_cons_of_mem _ (List.mem_append_right _ h)) 14 (by decide) rfl (hts _ (List.mem_of_getElem? (i := 2) rfl)) dX6_cost_5 (fun q18 eq18 hq18 tq18 => ?_)
  have tq18 : τ q18 = (26, 0) := tq18
  obtain ⟨v19, ev19, tv19⟩ : ∃ v : Int32, Int32.ofInt (4) = v ∧ v.toInt = 4 := ⟨_, rfl, by decide +kernel⟩
  refine lv_iconst hx hb dX6_cost_8 ev19 ?_
  refine tr_iald Z.1 Z.2.2.2.1 S0.1 S0.2 hq18 tq18 rfl (by omega) (by omega) dX6_cost_9 (fun v20 ev20 lv20 uv20 => ?_)
  refine lv_imul hx hb dX6_cost_10 ?_
  refine lv_topi (fun v21 ev21 => ?_)
  refine lv_istore_n (lv' := [(2, .int v21), (0, .ref a0), (1, .ref a1)]) hx hb dX6_cost_11 rfl hl (by decide) rfl (fun l22 hl23 => ?_)
  obtain ⟨v24, ev24, tv24⟩ : ∃ v : Int32, Int32.ofInt (0) = v ∧ v.toInt = 0 := ⟨_, rfl, by decide +kernel⟩
  refine lv_iconst hx hb dX6_cost_12 ev24 ?_
  refine lv_istore_n (lv' := [(3, .int v24), (2, .int v21), (0, .ref a0), (1, .ref a1)]) hx hb dX6_cost_13 rfl hl23 (by decide) rfl (fun l25 hl26 => ?_)
  exact J14 _ v21 v24 s.heap [] l25 S0 (by omega) (by omega) (Nat.lt_succ_self _) (lv_sub hl26 [2, 3, 1, 0] rfl)

set_option maxHeartbeats 4000000 in
set_option maxRecDepth 100000 in
theorem k_X6_cost_v1 (l : Launch) (D : va_G) (cy : Nat → ClassId) {L : List Nat} {τ : Nat → Ro} {E : Ec} (hI : Inv TB cy L τ E) {a0 : Nat} (ha0 : a0 ∈ L) (ta0 : τ a0 = (5, 1)) {a1 : Nat} (ha1 : a1 ∈ L) (ta1 : τ a1 = (1, 2)) : CtI l yX6_cost wsX6_cost { frames := 0, cells := 0, slots := 0, locals := 0 } D TB cy L τ E [.ref a0, .ref a1] (inW []) (fun r E' => E' = E) := by
  intro sz
  refine sta (cc := cX6_cost) (maxL := 4) hI (by decide) rfl (Nat.le_of_ble_eq_true rfl) (fun p e s m args below meth c ls hsz Z S0 hl => ?_)
  have hx := Z.1.1
  have hb := Z.1.2.1
  have hts := Z.1.2.2.2.2
  have F0_ : Fr L τ (inW []) E E := Fr.refl
  have hl : lv_has ls 4 [(0, .ref a0), (1, .ref a1)] := hl
  generalize hQ : MQ below _ args s 0 0 _ = QQ
  have J14 : ∀ (n : Nat) (x2_14 : Int32) (x3_14 : Int32) (H_14 : Heap) (k_14 : List Loc) (l_14 : Array Slot), Now D TB cy (va_A (va_pl L E) sz) s L τ E H_14 k_14 → (0 ≤ x3_14.toInt) → (x3_14.toInt ≤ 66) → (66 - x3_14.toInt).toNat < n → lv_has l_14 4 [(0, .ref a0), (1, .ref a1), (2, .int x2_14), (3, .int x3_14)] → W p l e { frames := 0, cells := 0, slots := 0, locals := 0 } s m args below meth c H_14 k_14 0 0 QQ (F0 m 14 l_14 []) := by
    intro n
    induction n with
    | zero => intro x2_14 x3_14 H_14 k_14 l_14 S_14 z1 z2 hm hl_14; exact absurd hm (Nat.not_lt_zero _)
    | succ n ih =>
      intro x2_14 x3_14 H_14 k_14 l_14 S_14 z1 z2 hm hl_14
      have ih_14 := ih
      refine lv_iload_n hx hb dX6_cost_14 rfl (lv_at hl_14 3 rfl) ?_
      refine lv_aload_n hx hb dX6_cost_15 rfl (lv_at hl_14 0 rfl) ?_
      refine tr_geti Z.1 Z.2.2.2.1 S_14.1 S_14.2 ha0 ta0 rfl rfl (fun _ h => List.mem_cons_of_mem _ (List.mem_append_left _ (List.mem_append_right _ h))) 1 (by decide) rfl (hts _ (List.mem_of_getElem? (i := 3) rfl)) dX6_cost_16 (fun v3 ev3 lv3 uv3 => ?_)
      refine lv_icmp_ge (tgt := 44) hx hb dX6_cost_19 (by decide) (fun c4 => ?_) (fun c4 => ?_)
      · skip
        have tc4 := nu_le c4
        refine lv_iload_n hx hb dX6_cost_44 rfl (lv_at hl_14 2 rfl) ?_
        rw [← hQ]
        exact en_i Z S_14 F0_ rfl dX6_cost_45
      · skip
        have tc4 := nu_nle c4
        refine lv_iload_n hx hb dX6_cost_22 rfl (lv_at hl_14 2 rfl) ?_
        refine lv_aload_n hx hb dX6_cost_23 rfl (lv_at hl_14 1 rfl) ?_
        refine tr_getr Z.1 Z.2.2.2.1 S_14.1 S_14.2 ha1 ta1 rfl rfl (fun _ h => List.mem_cons_of_mem _ (List.mem_append_right _ h)) 14 (by decide) rfl (hts _ (List.mem_of_getElem? (i := 2) rfl)) dX6_cost_24 (fun q5 eq5 hq5 tq5 => ?_)
        have tq5 : τ q5 = (26, 2) := tq5
        refine lv_aload_n hx hb dX6_cost_27 rfl (lv_at hl_14 0 rfl) ?_
        refine tr_getr Z.1 Z.2.2.2.1 S_14.1 S_14.2 ha0 ta0 rfl rfl (fun _ h => List.mem_cons_of_mem _ (List.mem_append_left _ (List.mem_append_right _ h))) 0 (by decide) rfl (hts _ (List.mem_of_getElem? (i := 4) rfl)) dX6_cost_28 (fun q6 eq6 hq6 tq6 => ?_)
        have tq6 : τ q6 = (30, 1) := tq6
        obtain ⟨v7, ev7, tv7⟩ : ∃ v : Int32, Int32.ofInt (0) = v ∧ v.toInt = 0 := ⟨_, rfl, by decide +kernel⟩
        refine lv_iconst hx hb dX6_cost_31 ev7 ?_
        refine tr_aaldr (ra := 100) (rb := 1) Z.1 Z.2.2.2.1 S_14.1 S_14.2 hq6 tq6 rfl (row_at (w := 0) (by omega)) rfl rfl (by omega) (by omega) dX6_cost_32 (fun q8 eq8 hq8 tq8 => ?_)
        have tq8 : τ q8 = (100, 1) := tq8
        refine lv_iload_n hx hb dX6_cost_33 rfl (lv_at hl_14 3 rfl) ?_
        refine tr_iald Z.1 Z.2.2.2.1 S_14.1 S_14.2 hq8 tq8 rfl (by omega) (by omega) dX6_cost_34 (fun v9 ev9 lv9 uv9 => ?_)
        refine tr_iald Z.1 Z.2.2.2.1 S_14.1 S_14.2 hq5 tq5 rfl (by omega) (by omega) dX6_cost_35 (fun v10 ev10 lv10 uv10 => ?_)
        refine lv_iadd hx hb dX6_cost_36 ?_
        refine lv_topi (fun v11 ev11 => ?_)
        refine lv_istore_n (lv' := [(2, .int v11), (0, .ref a0), (1, .ref a1), (3, .int x3_14)]) hx hb dX6_cost_37 rfl hl_14 (by decide) rfl (fun l12 hl13 => ?_)
        obtain ⟨v14, ev14⟩ : ∃ y : Int32, x3_14 + Int32.ofInt (1) = y := ⟨_, rfl⟩
        have tv14 : v14.toInt = x3_14.toInt + (1) := by rw [← ev14]; exact (fb_addI (by rw [show (Int32.ofInt (1)).toInt = 1 from by decide +kernel]; omega) (by rw [show (Int32.ofInt (1)).toInt = 1 from by decide +kernel]; omega)).trans (by rw [show (Int32.ofInt (1)).toInt = 1 from by decide +kernel])
        refine lv_iinc (v := v14) (lv' := [(3, .int v14), (2, .int v11), (0, .ref a0), (1, .ref a1)]) hx hb dX6_cost_38 hl13 (k := 3) rfl ev14 (by decide) rfl (fun l15 hl16 => ?_)
        refine lv_goto (tgt := 14) hx hb dX6_cost_41 (by decide) ?_
        exact ih_14 v11 v14 H_14 k_14 l15 S_14 (by omega) (by omega) (by omega) (lv_sub hl16 [2, 3, 1, 0] rfl)
  refine lv_aload_n hx hb dX6_cost_0 rfl (lv_at hl 0 rfl) ?_
  refine tr_geti Z.1 Z.2.2.2.1 S0.1 S0.2 ha0 ta0 rfl rfl (fun _ h => List.mem_cons_of_mem _ (List.mem_append_left _ (List.mem_append_right _ h))) 2 (by decide) rfl (hts _ (List.mem_of_getElem? (i := 1) rfl)) dX6_cost_1 (fun v17 ev17 lv17 uv17 => ?_)
  refine lv_aload_n hx hb dX6_cost_4 rfl (lv_at hl 1 rfl) ?_
  refine tr_getr Z.1 Z.2.2.2.1 S0.1 S0.2 ha1 ta1 rfl rfl (fun _ h => List.mem_cons_of_mem _ (List.mem_append_right _ h)) 14 (by decide) rfl (hts _ (List.mem_of_getElem? (i := 2) rfl)) dX6_cost_5 (fun q18 eq18 hq18 tq18 => ?_)
  have tq18 : τ q18 = (26, 2) := tq18
  obtain ⟨v19, ev19, tv19⟩ : ∃ v : Int32, Int32.ofInt (4) = v ∧ v.toInt = 4 := ⟨_, rfl, by decide +kernel⟩
  refine lv_iconst hx hb dX6_cost_8 ev19 ?_
  refine tr_iald Z.1 Z.2.2.2.1 S0.1 S0.2 hq18 tq18 rfl (by omega) (by omega) dX6_cost_9 (fun v20 ev20 lv20 uv20 => ?_)
  refine lv_imul hx hb dX6_cost_10 ?_
  refine lv_topi (fun v21 ev21 => ?_)
  refine lv_istore_n (lv' := [(2, .int v21), (0, .ref a0), (1, .ref a1)]) hx hb dX6_cost_11 rfl hl (by decide) rfl (fun l22 hl23 => ?_)
  obtain ⟨v24, ev24, tv24⟩ : ∃ v : Int32, Int32.ofInt (0) = v ∧ v.toInt = 0 := ⟨_, rfl, by decide +kernel⟩
  refine lv_iconst hx hb dX6_cost_12 ev24 ?_
  refine lv_istore_n (lv' := [(3, .int v24), (2, .int v21), (0, .ref a0), (1, .ref a1)]) hx hb dX6_cost_13 rfl hl23 (by decide) rfl (fun l25 hl26 => ?_)
  exact J14 _ v21 v24 s.heap [] l25 S0 (by omega) (by omega) (Nat.lt_succ_self _) (lv_sub hl26 [2, 3, 1, 0] rfl)

theorem dX6_riseOf_0 : decode cX6_riseOf 0 = .ok (.iconst 0, 1) := by decide +kernel
theorem dX6_riseOf_1 : decode cX6_riseOf 1 = .ok (.istore_n 2, 1) := by decide +kernel
theorem dX6_riseOf_2 : decode cX6_riseOf 2 = .ok (.iconst 0, 1) := by decide +kernel
theorem dX6_riseOf_3 : decode cX6_riseOf 3 = .ok (.istore_n 3, 1) := by decide +kernel
theorem dX6_riseOf_4 : decode cX6_riseOf 4 = .ok (.iload_n 3, 1) := by decide +kernel
theorem dX6_riseOf_5 : decode cX6_riseOf 5 = .ok (.aload_n 0, 1) := by decide +kernel
theorem dX6_riseOf_6 : decode cX6_riseOf 6 = .ok (.getfield 16, 3) := by decide +kernel
theorem dX6_riseOf_9 : decode cX6_riseOf 9 = .ok (.if_icmp .ge 33, 3) := by decide +kernel
theorem dX6_riseOf_12 : decode cX6_riseOf 12 = .ok (.aload_n 0, 1) := by decide +kernel
theorem dX6_riseOf_13 : decode cX6_riseOf 13 = .ok (.getfield 13, 3) := by decide +kernel
theorem dX6_riseOf_16 : decode cX6_riseOf 16 = .ok (.bipush 7, 2) := by decide +kernel
theorem dX6_riseOf_18 : decode cX6_riseOf 18 = .ok (.aaload, 1) := by decide +kernel
theorem dX6_riseOf_19 : decode cX6_riseOf 19 = .ok (.iload_n 3, 1) := by decide +kernel
theorem dX6_riseOf_20 : decode cX6_riseOf 20 = .ok (.iaload, 1) := by decide +kernel
theorem dX6_riseOf_21 : decode cX6_riseOf 21 = .ok (.iload_n 1, 1) := by decide +kernel
theorem dX6_riseOf_22 : decode cX6_riseOf 22 = .ok (.if_icmp .ne 14, 3) := by decide +kernel
theorem dX6_riseOf_25 : decode cX6_riseOf 25 = .ok (.iload_n 2, 1) := by decide +kernel
theorem dX6_riseOf_26 : decode cX6_riseOf 26 = .ok (.aload_n 0, 1) := by decide +kernel
theorem dX6_riseOf_27 : decode cX6_riseOf 27 = .ok (.getfield 13, 3) := by decide +kernel
theorem dX6_riseOf_30 : decode cX6_riseOf 30 = .ok (.iconst 1, 1) := by decide +kernel
theorem dX6_riseOf_31 : decode cX6_riseOf 31 = .ok (.aaload, 1) := by decide +kernel
theorem dX6_riseOf_32 : decode cX6_riseOf 32 = .ok (.iload_n 3, 1) := by decide +kernel
theorem dX6_riseOf_33 : decode cX6_riseOf 33 = .ok (.iaload, 1) := by decide +kernel
theorem dX6_riseOf_34 : decode cX6_riseOf 34 = .ok (.iadd, 1) := by decide +kernel
theorem dX6_riseOf_35 : decode cX6_riseOf 35 = .ok (.istore_n 2, 1) := by decide +kernel
theorem dX6_riseOf_36 : decode cX6_riseOf 36 = .ok (.iinc 3 1, 3) := by decide +kernel
theorem dX6_riseOf_39 : decode cX6_riseOf 39 = .ok (.goto (-35), 3) := by decide +kernel
theorem dX6_riseOf_42 : decode cX6_riseOf 42 = .ok (.iload_n 2, 1) := by decide +kernel
theorem dX6_riseOf_43 : decode cX6_riseOf 43 = .ok (.ireturn, 1) := by decide +kernel
set_option maxHeartbeats 4000000 in
set_option maxRecDepth 100000 in
theorem k_X6_riseOf (l : Launch) (D : va_G) (cy : Nat → ClassId) {L : List Nat} {τ : Nat → Ro} {E : Ec} (hI : Inv TB cy L τ E) {a0 : Nat} (ha0 : a0 ∈ L) (ta0 : τ a0 = (5, 0)) (a1 : Int32) : CtI l yX6_riseOf wsX6_riseOf { frames := 0, cells := 0, slots := 0, locals := 0 } D TB cy L τ E [.ref a0, .int a1] (inW []) (fun r E' => E' = E) := by
  intro sz
  refine sta (cc := cX6_riseOf) (maxL := 4) hI (by decide) rfl (Nat.le_of_ble_eq_true rfl) (fun p e s m args below meth c ls hsz Z S0 hl => ?_)
  have hx := Z.1.1
  have hb := Z.1.2.1
  have hts := Z.1.2.2.2.2
  have F0_ : Fr L τ (inW []) E E := Fr.refl
  have hl : lv_has ls 4 [(0, .ref a0), (1, .int a1)] := hl
  generalize hQ : MQ below _ args s 0 0 _ = QQ
  have J4 : ∀ (n : Nat) (x2_4 : Int32) (x3_4 : Int32) (H_4 : Heap) (k_4 : List Loc) (l_4 : Array Slot), Now D TB cy (va_A (va_pl L E) sz) s L τ E H_4 k_4 → (0 ≤ x3_4.toInt) → (x3_4.toInt ≤ 66) → (66 - x3_4.toInt).toNat < n → lv_has l_4 4 [(0, .ref a0), (1, .int a1), (2, .int x2_4), (3, .int x3_4)] → W p l e { frames := 0, cells := 0, slots := 0, locals := 0 } s m args below meth c H_4 k_4 0 0 QQ (F0 m 4 l_4 []) := by
    intro n
    induction n with
    | zero => intro x2_4 x3_4 H_4 k_4 l_4 S_4 z1 z2 hm hl_4; exact absurd hm (Nat.not_lt_zero _)
    | succ n ih =>
      intro x2_4 x3_4 H_4 k_4 l_4 S_4 z1 z2 hm hl_4
      have ih_4 := ih
      have J36 : ∀ (x2_36 : Int32) (H_36 : Heap) (k_36 : List Loc) (l_36 : Array Slot), Now D TB cy (va_A (va_pl L E) sz) s L τ E H_36 k_36 → (0 ≤ x3_4.toInt) → (x3_4.toInt ≤ 65) → lv_has l_36 4 [(0, .ref a0), (1, .int a1), (2, .int x2_36), (3, .int x3_4)] → W p l e { frames := 0, cells := 0, slots := 0, locals := 0 } s m args below meth c H_36 k_36 0 0 QQ (F0 m 36 l_36 []) := by
        intro x2_36 H_36 k_36 l_36 S_36 z3 z4 hl_36
        obtain ⟨v5, ev5⟩ : ∃ y : Int32, x3_4 + Int32.ofInt (1) = y := ⟨_, rfl⟩
        have tv5 : v5.toInt = x3_4.toInt + (1) := by rw [← ev5]; exact (fb_addI (by rw [show (Int32.ofInt (1)).toInt = 1 from by decide +kernel]; omega) (by rw [show (Int32.ofInt (1)).toInt = 1 from by decide +kernel]; omega)).trans (by rw [show (Int32.ofInt (1)).toInt = 1 from by decide +kernel])
        refine lv_iinc (v := v5) (lv' := [(3, .int v5), (0, .ref a0), (1, .int a1), (2, .int x2_36)]) hx hb dX6_riseOf_36 hl_36 (k := 3) rfl ev5 (by decide) rfl (fun l6 hl7 => ?_)
        refine lv_goto (tgt := 4) hx hb dX6_riseOf_39 (by decide) ?_
        exact ih_4 x2_36 v5 H_36 k_36 l6 S_36 (by omega) (by omega) (by omega) (lv_sub hl7 [1, 2, 3, 0] rfl)
      refine lv_iload_n hx hb dX6_riseOf_4 rfl (lv_at hl_4 3 rfl) ?_
      refine lv_aload_n hx hb dX6_riseOf_5 rfl (lv_at hl_4 0 rfl) ?_
      refine tr_geti Z.1 Z.2.2.2.1 S_4.1 S_4.2 ha0 ta0 rfl rfl (fun _ h => List.mem_cons_of_mem _ (List.mem_append_right _ h)) 1 (by decide) rfl (hts _ (List.mem_of_getElem? (i := 1) rfl)) dX6_riseOf_6 (fun v8 ev8 lv8 uv8 => ?_)
      refine lv_icmp_ge (tgt := 42) hx hb dX6_riseOf_9 (by decide) (fun c9 => ?_) (fun c9 => ?_)
      · skip
        have tc9 := nu_le c9
        refine lv_iload_n hx hb dX6_riseOf_42 rfl (lv_at hl_4 2 rfl) ?_
        rw [← hQ]
        exact en_i Z S_4 F0_ rfl dX6_riseOf_43
      · skip
        have tc9 := nu_nle c9
        refine lv_aload_n hx hb dX6_riseOf_12 rfl (lv_at hl_4 0 rfl) ?_
        refine tr_getr Z.1 Z.2.2.2.1 S_4.1 S_4.2 ha0 ta0 rfl rfl (fun _ h => List.mem_cons_of_mem _ (List.mem_append_right _ h)) 0 (by decide) rfl (hts _ (List.mem_of_getElem? (i := 2) rfl)) dX6_riseOf_13 (fun q10 eq10 hq10 tq10 => ?_)
        have tq10 : τ q10 = (30, 0) := tq10
        obtain ⟨v11, ev11, tv11⟩ : ∃ v : Int32, (Int8.ofInt (7)).toInt32 = v ∧ v.toInt = 7 := ⟨_, rfl, by decide +kernel⟩
        refine lv_bipush hx hb dX6_riseOf_16 ev11 ?_
        refine tr_aaldr (ra := 107) (rb := 0) Z.1 Z.2.2.2.1 S_4.1 S_4.2 hq10 tq10 rfl (row_at (w := 7) (by omega)) rfl rfl (by omega) (by omega) dX6_riseOf_18 (fun q12 eq12 hq12 tq12 => ?_)
        have tq12 : τ q12 = (107, 0) := tq12
        refine lv_iload_n hx hb dX6_riseOf_19 rfl (lv_at hl_4 3 rfl) ?_
        refine tr_iald Z.1 Z.2.2.2.1 S_4.1 S_4.2 hq12 tq12 rfl (by omega) (by omega) dX6_riseOf_20 (fun v13 ev13 lv13 uv13 => ?_)
        refine lv_iload_n hx hb dX6_riseOf_21 rfl (lv_at hl_4 1 rfl) ?_
        refine lv_icmp_ne (tgt := 36) hx hb dX6_riseOf_22 (by decide) (fun c14 => ?_) (fun c14 => ?_)
        · skip
          have tc14 := nu_ne c14
          exact J36 x2_4 H_4 k_4 l_4 S_4 (by omega) (by omega) (lv_sub hl_4 [0, 1, 2, 3] rfl)
        · skip
          have tc14 := nu_eq c14
          refine lv_iload_n hx hb dX6_riseOf_25 rfl (lv_at hl_4 2 rfl) ?_
          refine lv_aload_n hx hb dX6_riseOf_26 rfl (lv_at hl_4 0 rfl) ?_
          refine tr_getr Z.1 Z.2.2.2.1 S_4.1 S_4.2 ha0 ta0 rfl rfl (fun _ h => List.mem_cons_of_mem _ (List.mem_append_right _ h)) 0 (by decide) rfl (hts _ (List.mem_of_getElem? (i := 2) rfl)) dX6_riseOf_27 (fun q15 eq15 hq15 tq15 => ?_)
          have tq15 : τ q15 = (30, 0) := tq15
          have uq15 : q10 = q15 := S_4.2.2.2.2 _ hq10 _ hq15 (tq10.trans tq15.symm) (by rw [tq10]; rfl)
          subst uq15
          obtain ⟨v16, ev16, tv16⟩ : ∃ v : Int32, Int32.ofInt (1) = v ∧ v.toInt = 1 := ⟨_, rfl, by decide +kernel⟩
          refine lv_iconst hx hb dX6_riseOf_30 ev16 ?_
          refine tr_aaldr (ra := 101) (rb := 0) Z.1 Z.2.2.2.1 S_4.1 S_4.2 hq10 tq10 rfl (row_at (w := 1) (by omega)) rfl rfl (by omega) (by omega) dX6_riseOf_31 (fun q17 eq17 hq17 tq17 => ?_)
          have tq17 : τ q17 = (101, 0) := tq17
          refine lv_iload_n hx hb dX6_riseOf_32 rfl (lv_at hl_4 3 rfl) ?_
          refine tr_iald Z.1 Z.2.2.2.1 S_4.1 S_4.2 hq17 tq17 rfl (by omega) (by omega) dX6_riseOf_33 (fun v18 ev18 lv18 uv18 => ?_)
          refine lv_iadd hx hb dX6_riseOf_34 ?_
          refine lv_topi (fun v19 ev19 => ?_)
          refine lv_istore_n (lv' := [(2, .int v19), (0, .ref a0), (1, .int a1), (3, .int x3_4)]) hx hb dX6_riseOf_35 rfl hl_4 (by decide) rfl (fun l20 hl21 => ?_)
          exact J36 v19 H_4 k_4 l20 S_4 (by omega) (by omega) (lv_sub hl21 [1, 2, 0, 3] rfl)
  obtain ⟨v22, ev22, tv22⟩ : ∃ v : Int32, Int32.ofInt (0) = v ∧ v.toInt = 0 := ⟨_, rfl, by decide +kernel⟩
  refine lv_iconst hx hb dX6_riseOf_0 ev22 ?_
  refine lv_istore_n (lv' := [(2, .int v22), (0, .ref a0), (1, .int a1)]) hx hb dX6_riseOf_1 rfl hl (by decide) rfl (fun l23 hl24 => ?_)
  obtain ⟨v25, ev25, tv25⟩ : ∃ v : Int32, Int32.ofInt (0) = v ∧ v.toInt = 0 := ⟨_, rfl, by decide +kernel⟩
  refine lv_iconst hx hb dX6_riseOf_2 ev25 ?_
  refine lv_istore_n (lv' := [(3, .int v25), (2, .int v22), (0, .ref a0), (1, .int a1)]) hx hb dX6_riseOf_3 rfl hl24 (by decide) rfl (fun l26 hl27 => ?_)
  exact J4 _ v22 v25 s.heap [] l26 S0 (by omega) (by omega) (Nat.lt_succ_self _) (lv_sub hl27 [2, 3, 1, 0] rfl)

