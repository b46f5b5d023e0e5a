theorem dX1_asked_0 : decode cX1_asked 0 = .ok (.aload_n 0, 1) := by decide +kernel
theorem dX1_asked_1 : decode cX1_asked 1 = .ok (.getfield 21, 3) := by decide +kernel
theorem dX1_asked_4 : decode cX1_asked 4 = .ok (.ifCond .eq 9, 3) := by decide +kernel
theorem dX1_asked_7 : decode cX1_asked 7 = .ok (.iload_n 1, 1) := by decide +kernel
theorem dX1_asked_8 : decode cX1_asked 8 = .ok (.iconst 1, 1) := by decide +kernel
theorem dX1_asked_9 : decode cX1_asked 9 = .ok (.isub, 1) := by decide +kernel
theorem dX1_asked_10 : decode cX1_asked 10 = .ok (.goto 4, 3) := by decide +kernel
theorem dX1_asked_13 : decode cX1_asked 13 = .ok (.iload_n 1, 1) := by decide +kernel
theorem dX1_asked_14 : decode cX1_asked 14 = .ok (.ireturn, 1) := by decide +kernel
set_option maxHeartbeats 4000000 in
set_option maxRecDepth 100000 in
theorem k_X1_asked (l : Launch) (D : va_G) (cy : Nat → ClassId) {L : List Nat} {τ : Nat → Ro} {E : Ec} (hI : Inv TB cy L τ E) {lw : Nat} {a0 : Nat} (ha0 : a0 ∈ L) (ta0 : τ a0 = (10, lw)) (a1 : Int32) (la1 : 0 ≤ a1.toInt) (ua1 : a1.toInt ≤ 66) : CtI l yX1_asked wsX1_asked { frames := 0, cells := 0, slots := 0, locals := 0 } D TB cy L τ E [.ref a0, .int a1] (inW []) (fun r E' => E' = E ∧ (r.toInt + ((lw % 2 : Nat) : Int) ≤ a1.toInt) ∧ -1 ≤ r.toInt ∧ r.toInt ≤ 66) := by
  intro sz
  refine sta (cc := cX1_asked) (maxL := 2) hI (by decide) rfl (Nat.le_of_ble_eq_true rfl) (fun p e s m args below meth c ls hsz Z S0 hl => ?_)
  have hx := Z.1.1
  have hb := Z.1.2.1
  have hts := Z.1.2.2.2.2
  have F0_ : Fr L τ (inW []) E E := Fr.refl
  have hl : lv_has ls 2 [(0, .ref a0), (1, .int a1)] := hl
  generalize hQ : MQ below _ args s 0 0 _ = QQ
  refine lv_aload_n hx hb dX1_asked_0 rfl (lv_at hl 0 rfl) ?_
  refine tr_geti Z.1 Z.2.2.2.1 S0.1 S0.2 ha0 ta0 rfl rfl (fun _ h => List.mem_cons_of_mem _ (List.mem_append_right _ h)) 1 (by decide) rfl (hts _ (List.mem_of_getElem? (i := 1) rfl)) dX1_asked_1 (fun v1 ev1 lv1 uv1 => ?_)
  have lv1 : (((lw) % 2 : Nat) : Int) ≤ v1.toInt := lv1
  have uv1 : v1.toInt ≤ (((lw) % 2 : Nat) : Int) := uv1
  refine lv_if_eq (tgt := 13) hx hb dX1_asked_4 (by decide) (fun c2 => ?_) (fun c2 => ?_)
  · skip
    have tc2 := nu_eq c2
    have uc2 : (0 : Int32).toInt = 0 := rfl
    refine lv_iload_n hx hb dX1_asked_13 rfl (lv_at hl 1 rfl) ?_
    rw [← hQ]
    exact en_i Z S0 F0_ ⟨rfl, (by omega), (by omega), (by omega)⟩ dX1_asked_14
  · skip
    have tc2 := nu_ne c2
    have uc2 : (0 : Int32).toInt = 0 := rfl
    refine lv_iload_n hx hb dX1_asked_7 rfl (lv_at hl 1 rfl) ?_
    obtain ⟨v3, ev3, tv3⟩ : ∃ v : Int32, Int32.ofInt (1) = v ∧ v.toInt = 1 := ⟨_, rfl, by decide +kernel⟩
    refine lv_iconst hx hb dX1_asked_8 ev3 ?_
    refine lv_isub hx hb dX1_asked_9 ?_
    refine lv_topi (fun v4 ev4 => ?_)
    have tv4 := nu_sub ev4 (by omega) (by omega)
    refine lv_goto (tgt := 14) hx hb dX1_asked_10 (by decide) ?_
    rw [← hQ]
    exact en_i Z S0 F0_ ⟨rfl, (by omega), (by omega), (by omega)⟩ dX1_asked_14

theorem dX1_excess_0 : decode cX1_excess 0 = .ok (.iconst 0, 1) := by decide +kernel
theorem dX1_excess_1 : decode cX1_excess 1 = .ok (.istore 4, 2) := by decide +kernel
theorem dX1_excess_3 : decode cX1_excess 3 = .ok (.iload_n 3, 1) := by decide +kernel
theorem dX1_excess_4 : decode cX1_excess 4 = .ok (.ifCond .ne 7, 3) := by decide +kernel
theorem dX1_excess_7 : decode cX1_excess 7 = .ok (.iconst 0, 1) := by decide +kernel
theorem dX1_excess_8 : decode cX1_excess 8 = .ok (.goto 11, 3) := by decide +kernel
theorem dX1_excess_11 : decode cX1_excess 11 = .ok (.aload_n 0, 1) := by decide +kernel
theorem dX1_excess_12 : decode cX1_excess 12 = .ok (.getfield 36, 3) := by decide +kernel
theorem dX1_excess_15 : decode cX1_excess 15 = .ok (.iload_n 3, 1) := by decide +kernel
theorem dX1_excess_16 : decode cX1_excess 16 = .ok (.iconst 1, 1) := by decide +kernel
theorem dX1_excess_17 : decode cX1_excess 17 = .ok (.isub, 1) := by decide +kernel
theorem dX1_excess_18 : decode cX1_excess 18 = .ok (.iaload, 1) := by decide +kernel
theorem dX1_excess_19 : decode cX1_excess 19 = .ok (.istore 5, 2) := by decide +kernel
theorem dX1_excess_21 : decode cX1_excess 21 = .ok (.iload 5, 2) := by decide +kernel
theorem dX1_excess_23 : decode cX1_excess 23 = .ok (.aload_n 0, 1) := by decide +kernel
theorem dX1_excess_24 : decode cX1_excess 24 = .ok (.getfield 36, 3) := by decide +kernel
theorem dX1_excess_27 : decode cX1_excess 27 = .ok (.iload_n 3, 1) := by decide +kernel
theorem dX1_excess_28 : decode cX1_excess 28 = .ok (.iaload, 1) := by decide +kernel
theorem dX1_excess_29 : decode cX1_excess 29 = .ok (.if_icmp .ge 44, 3) := by decide +kernel
theorem dX1_excess_32 : decode cX1_excess 32 = .ok (.iload 4, 2) := by decide +kernel
theorem dX1_excess_34 : decode cX1_excess 34 = .ok (.aload_n 0, 1) := by decide +kernel
theorem dX1_excess_35 : decode cX1_excess 35 = .ok (.getfield 43, 3) := by decide +kernel
theorem dX1_excess_38 : decode cX1_excess 38 = .ok (.iload 5, 2) := by decide +kernel
theorem dX1_excess_40 : decode cX1_excess 40 = .ok (.iaload, 1) := by decide +kernel
theorem dX1_excess_41 : decode cX1_excess 41 = .ok (.aload_n 1, 1) := by decide +kernel
theorem dX1_excess_42 : decode cX1_excess 42 = .ok (.getfield 56, 3) := by decide +kernel
theorem dX1_excess_45 : decode cX1_excess 45 = .ok (.aload_n 0, 1) := by decide +kernel
theorem dX1_excess_46 : decode cX1_excess 46 = .ok (.getfield 47, 3) := by decide +kernel
theorem dX1_excess_49 : decode cX1_excess 49 = .ok (.iload 5, 2) := by decide +kernel
theorem dX1_excess_51 : decode cX1_excess 51 = .ok (.iaload, 1) := by decide +kernel
theorem dX1_excess_52 : decode cX1_excess 52 = .ok (.aaload, 1) := by decide +kernel
theorem dX1_excess_53 : decode cX1_excess 53 = .ok (.iload_n 2, 1) := by decide +kernel
theorem dX1_excess_54 : decode cX1_excess 54 = .ok (.aload_n 0, 1) := by decide +kernel
theorem dX1_excess_55 : decode cX1_excess 55 = .ok (.getfield 51, 3) := by decide +kernel
theorem dX1_excess_58 : decode cX1_excess 58 = .ok (.iload 5, 2) := by decide +kernel
theorem dX1_excess_60 : decode cX1_excess 60 = .ok (.iaload, 1) := by decide +kernel
theorem dX1_excess_61 : decode cX1_excess 61 = .ok (.iadd, 1) := by decide +kernel
theorem dX1_excess_62 : decode cX1_excess 62 = .ok (.iaload, 1) := by decide +kernel
theorem dX1_excess_63 : decode cX1_excess 63 = .ok (.imul, 1) := by decide +kernel
theorem dX1_excess_64 : decode cX1_excess 64 = .ok (.iadd, 1) := by decide +kernel
theorem dX1_excess_65 : decode cX1_excess 65 = .ok (.istore 4, 2) := by decide +kernel
theorem dX1_excess_67 : decode cX1_excess 67 = .ok (.iinc 5 1, 3) := by decide +kernel
theorem dX1_excess_70 : decode cX1_excess 70 = .ok (.goto (-49), 3) := by decide +kernel
theorem dX1_excess_73 : decode cX1_excess 73 = .ok (.iload 4, 2) := by decide +kernel
theorem dX1_excess_75 : decode cX1_excess 75 = .ok (.ireturn, 1) := by decide +kernel
set_option maxHeartbeats 4000000 in
set_option maxRecDepth 100000 in
theorem k_X1_excess_v0 (l : Launch) (D : va_G) (cy : Nat → ClassId) {L : List Nat} {τ : Nat → Ro} {E : Ec} (hI : Inv TB cy L τ E) {lw : Nat} {a0 : Nat} (ha0 : a0 ∈ L) (ta0 : τ a0 = (10, lw)) {a1 : Nat} (ha1 : a1 ∈ L) (ta1 : τ a1 = (5, 0)) (a2 : Int32) (la2 : 0 ≤ a2.toInt) (ua2 : a2.toInt ≤ 65) (a3 : Int32) (la3 : 0 ≤ a3.toInt) (ua3 : a3.toInt ≤ 7) (hk : a2.toInt + ((lw % 2 : Nat) : Int) ≤ 65) (hr : a3.toInt < ((lw / 2 % 8 : Nat) : Int)) : CtI l yX1_excess wsX1_excess { frames := 0, cells := 0, slots := 0, locals := 0 } D TB cy L τ E [.ref a0, .ref a1, .int a2, .int a3] (inW []) (fun r E' => E' = E) := by
  intro sz
  refine sta (cc := cX1_excess) (maxL := 6) hI (by decide) rfl (Nat.le_of_ble_eq_true rfl) (fun p e s m args below meth c ls hsz Z S0 hl => ?_)
  have hx := Z.1.1
  have hb := Z.1.2.1
  have hts := Z.1.2.2.2.2
  have F0_ : Fr L τ (inW []) E E := Fr.refl
  have hl : lv_has ls 6 [(0, .ref a0), (1, .ref a1), (2, .int a2), (3, .int a3)] := hl
  generalize hQ : MQ below _ args s 0 0 _ = QQ
  have J21 : ∀ (n : Nat) (x4_21 : Int32) (x5_21 : Int32) (H_21 : Heap) (k_21 : List Loc) (l_21 : Array Slot), Now D TB cy (va_A (va_pl L E) sz) s L τ E H_21 k_21 → (0 ≤ a2.toInt) → (a2.toInt ≤ 65) → (0 ≤ a3.toInt) → (a3.toInt ≤ 7) → (0 ≤ x5_21.toInt) → (2147483647 - x5_21.toInt).toNat < n → lv_has l_21 6 [(0, .ref a0), (1, .ref a1), (2, .int a2), (3, .int a3), (4, .int x4_21), (5, .int x5_21)] → W p l e { frames := 0, cells := 0, slots := 0, locals := 0 } s m args below meth c H_21 k_21 0 0 QQ (F0 m 21 l_21 []) := by
    intro n
    induction n with
    | zero => intro x4_21 x5_21 H_21 k_21 l_21 S_21 z1 z2 z3 z4 z5 hm hl_21; exact absurd hm (Nat.not_lt_zero _)
    | succ n ih =>
      intro x4_21 x5_21 H_21 k_21 l_21 S_21 z1 z2 z3 z4 z5 hm hl_21
      have ih_21 := ih
      refine lv_iload hx hb dX1_excess_21 (lv_at hl_21 5 rfl) ?_
      refine lv_aload_n hx hb dX1_excess_23 rfl (lv_at hl_21 0 rfl) ?_
      refine tr_getr Z.1 Z.2.2.2.1 S_21.1 S_21.2 ha0 ta0 rfl rfl (fun _ h => List.mem_cons_of_mem _ (List.mem_append_left _ (List.mem_append_right _ h))) 2 (by decide) rfl (hts _ (List.mem_of_getElem? (i := 1) rfl)) dX1_excess_24 (fun q6 eq6 hq6 tq6 => ?_)
      have tq6 : τ q6 = (120, lw) := tq6
      refine lv_iload_n hx hb dX1_excess_27 rfl (lv_at hl_21 3 rfl) ?_
      refine tr_iald Z.1 Z.2.2.2.1 S_21.1 S_21.2 hq6 tq6 rfl (by omega) (by show _ < ((((lw) / 2 % 8 : Nat)) : Int); omega) dX1_excess_28 (fun v7 ev7 lv7 uv7 => ?_)
      have rv7 := fb_rng v7
      have uv7 : v7.toInt ≤ (((lw) / 16 : Nat) : Int) := uv7
      refine lv_icmp_ge (tgt := 73) hx hb dX1_excess_29 (by decide) (fun c8 => ?_) (fun c8 => ?_)
      · skip
        have tc8 := nu_le c8
        refine lv_iload hx hb dX1_excess_73 (lv_at hl_21 4 rfl) ?_
        rw [← hQ]
        exact en_i Z S_21 F0_ rfl dX1_excess_75
      · skip
        have tc8 := nu_nle c8
        refine lv_iload hx hb dX1_excess_32 (lv_at hl_21 4 rfl) ?_
        refine lv_aload_n hx hb dX1_excess_34 rfl (lv_at hl_21 0 rfl) ?_
        refine tr_getr Z.1 Z.2.2.2.1 S_21.1 S_21.2 ha0 ta0 rfl rfl (fun _ h => List.mem_cons_of_mem _ (List.mem_append_left _ (List.mem_append_right _ h))) 3 (by decide) rfl (hts _ (List.mem_of_getElem? (i := 2) rfl)) dX1_excess_35 (fun q9 eq9 hq9 tq9 => ?_)
        have tq9 : τ q9 = (121, lw) := tq9
        refine lv_iload hx hb dX1_excess_38 (lv_at hl_21 5 rfl) ?_
        refine tr_iald Z.1 Z.2.2.2.1 S_21.1 S_21.2 hq9 tq9 rfl (by omega) (by show _ < ((((lw) / 16 : Nat)) : Int); omega) dX1_excess_40 (fun v10 ev10 lv10 uv10 => ?_)
        have rv10 := fb_rng v10
        refine lv_aload_n hx hb dX1_excess_41 rfl (lv_at hl_21 1 rfl) ?_
        refine tr_getr Z.1 Z.2.2.2.1 S_21.1 S_21.2 ha1 ta1 rfl rfl (fun _ h => List.mem_cons_of_mem _ (List.mem_append_right _ h)) 0 (by decide) rfl (hts _ (List.mem_of_getElem? (i := 3) rfl)) dX1_excess_42 (fun q11 eq11 hq11 tq11 => ?_)
        have tq11 : τ q11 = (30, 0) := tq11
        refine lv_aload_n hx hb dX1_excess_45 rfl (lv_at hl_21 0 rfl) ?_
        refine tr_getr Z.1 Z.2.2.2.1 S_21.1 S_21.2 ha0 ta0 rfl rfl (fun _ h => List.mem_cons_of_mem _ (List.mem_append_left _ (List.mem_append_right _ h))) 4 (by decide) rfl (hts _ (List.mem_of_getElem? (i := 4) rfl)) dX1_excess_46 (fun q12 eq12 hq12 tq12 => ?_)
        have tq12 : τ q12 = (122, lw) := tq12
        refine lv_iload hx hb dX1_excess_49 (lv_at hl_21 5 rfl) ?_
        refine tr_iald Z.1 Z.2.2.2.1 S_21.1 S_21.2 hq12 tq12 rfl (by omega) (by show _ < ((((lw) / 16 : Nat)) : Int); omega) dX1_excess_51 (fun v13 ev13 lv13 uv13 => ?_)
        have rv13 := fb_rng v13
        refine tr_aaldr (ra := 100 + ((v13.toNatClampNeg : Nat) : Int)) (rb := 0) Z.1 Z.2.2.2.1 S_21.1 S_21.2 hq11 tq11 rfl rfl rfl rfl (by omega) (by omega) dX1_excess_52 (fun q14 eq14 hq14 tq14 => ?_)
        have nq14 : v13.toNatClampNeg ≤ 12 := by show v13.toInt.toNat ≤ 12; omega
        have tq14 : τ q14 = (100 + v13.toNatClampNeg, 0) := tq14.trans (Prod.ext (by show (100 + ((v13.toNatClampNeg : Nat) : Int)).toNat = 100 + v13.toNatClampNeg; omega) rfl)
        refine lv_iload_n hx hb dX1_excess_53 rfl (lv_at hl_21 2 rfl) ?_
        refine lv_aload_n hx hb dX1_excess_54 rfl (lv_at hl_21 0 rfl) ?_
        refine tr_getr Z.1 Z.2.2.2.1 S_21.1 S_21.2 ha0 ta0 rfl rfl (fun _ h => List.mem_cons_of_mem _ (List.mem_append_left _ (List.mem_append_right _ h))) 5 (by decide) rfl (hts _ (List.mem_of_getElem? (i := 5) rfl)) dX1_excess_55 (fun q15 eq15 hq15 tq15 => ?_)
        have tq15 : τ q15 = (123, lw) := tq15
        refine lv_iload hx hb dX1_excess_58 (lv_at hl_21 5 rfl) ?_
        refine tr_iald Z.1 Z.2.2.2.1 S_21.1 S_21.2 hq15 tq15 rfl (by omega) (by show _ < ((((lw) / 16 : Nat)) : Int); omega) dX1_excess_60 (fun v16 ev16 lv16 uv16 => ?_)
        have rv16 := fb_rng v16
        have uv16 : v16.toInt ≤ (((lw) % 2 : Nat) : Int) := uv16
        refine lv_iadd hx hb dX1_excess_61 ?_
        refine lv_topi (fun v17 ev17 => ?_)
        have tv17 := nu_add ev17 (by omega) (by omega)
        refine tr_ialdw Z.1 Z.2.2.2.1 S_21.1 S_21.2 hq14 tq14 (row_tab (by omega)) (by omega) (by omega) dX1_excess_62 (fun v18 ev18 => ?_)
        refine lv_imul hx hb dX1_excess_63 ?_
        refine lv_topi (fun v19 ev19 => ?_)
        refine lv_iadd hx hb dX1_excess_64 ?_
        refine lv_topi (fun v20 ev20 => ?_)
        refine lv_istore (lv' := [(4, .int v20), (0, .ref a0), (1, .ref a1), (2, .int a2), (3, .int a3), (5, .int x5_21)]) hx hb dX1_excess_65 hl_21 (by decide) rfl (fun l21 hl22 => ?_)
        obtain ⟨v23, ev23⟩ : ∃ y : Int32, x5_21 + Int32.ofInt (1) = y := ⟨_, rfl⟩
        have tv23 : v23.toInt = x5_21.toInt + (1) := by rw [← ev23]; exact (fb_addI (by rw [show (Int32.ofInt (1)).toInt = 1 from by decide +kernel]; omega) (by rw [show (Int32.ofInt (1)).toInt = 1 from by decide +kernel]; omega)).trans (by rw [show (Int32.ofInt (1)).toInt = 1 from by decide +kernel])
        refine lv_iinc (v := v23) (lv' := [(5, .int v23), (4, .int v20), (0, .ref a0), (1, .ref a1), (2, .int a2), (3, .int a3)]) hx hb dX1_excess_67 hl22 (k := 5) rfl ev23 (by decide) rfl (fun l24 hl25 => ?_)
        refine lv_goto (tgt := 21) hx hb dX1_excess_70 (by decide) ?_
        exact ih_21 v20 v23 H_21 k_21 l24 S_21 (by have := fb_rng v23; have := fb_rng v20; omega) (by have := fb_rng v23; have := fb_rng v20; omega) (by have := fb_rng v23; have := fb_rng v20; omega) (by have := fb_rng v23; have := fb_rng v20; omega) (by have := fb_rng v23; have := fb_rng v20; omega) (by omega) (lv_sub hl25 [2, 3, 4, 5, 1, 0] rfl)
  have J19 : ∀ (x4_19 : Int32) (y0_19 : Int32) (H_19 : Heap) (k_19 : List Loc) (l_19 : Array Slot), Now D TB cy (va_A (va_pl L E) sz) s L τ E H_19 k_19 → (0 ≤ a2.toInt) → (a2.toInt ≤ 65) → (0 ≤ a3.toInt) → (a3.toInt ≤ 7) → (0 ≤ x4_19.toInt) → (x4_19.toInt ≤ 0) → (0 ≤ y0_19.toInt) → lv_has l_19 6 [(0, .ref a0), (1, .ref a1), (2, .int a2), (3, .int a3), (4, .int x4_19)] → W p l e { frames := 0, cells := 0, slots := 0, locals := 0 } s m args below meth c H_19 k_19 0 0 QQ (F0 m 19 l_19 [.int y0_19]) := by
    intro x4_19 y0_19 H_19 k_19 l_19 S_19 z26 z27 z28 z29 z30 z31 z32 hl_19
    refine lv_istore (lv' := [(5, .int y0_19), (0, .ref a0), (1, .ref a1), (2, .int a2), (3, .int a3), (4, .int x4_19)]) hx hb dX1_excess_19 hl_19 (by decide) rfl (fun l33 hl34 => ?_)
    exact J21 _ x4_19 y0_19 H_19 k_19 l33 S_19 (by have := fb_rng y0_19; omega) (by have := fb_rng y0_19; omega) (by have := fb_rng y0_19; omega) (by have := fb_rng y0_19; omega) (by have := fb_rng y0_19; omega) (Nat.lt_succ_self _) (lv_sub hl34 [1, 2, 3, 4, 5, 0] rfl)
  obtain ⟨v35, ev35, tv35⟩ : ∃ v : Int32, Int32.ofInt (0) = v ∧ v.toInt = 0 := ⟨_, rfl, by decide +kernel⟩
  refine lv_iconst hx hb dX1_excess_0 ev35 ?_
  refine lv_istore (lv' := [(4, .int v35), (0, .ref a0), (1, .ref a1), (2, .int a2), (3, .int a3)]) hx hb dX1_excess_1 hl (by decide) rfl (fun l36 hl37 => ?_)
  refine lv_iload_n hx hb dX1_excess_3 rfl (lv_at hl37 4 rfl) ?_
  refine lv_if_ne (tgt := 11) hx hb dX1_excess_4 (by decide) (fun c38 => ?_) (fun c38 => ?_)
  · skip
    have tc38 := nu_ne c38
    have uc38 : (0 : Int32).toInt = 0 := rfl
    refine lv_aload_n hx hb dX1_excess_11 rfl (lv_at hl37 1 rfl) ?_
    refine tr_getr Z.1 Z.2.2.2.1 S0.1 S0.2 ha0 ta0 rfl rfl (fun _ h => List.mem_cons_of_mem _ (List.mem_append_left _ (List.mem_append_right _ h))) 2 (by decide) rfl (hts _ (List.mem_of_getElem? (i := 1) rfl)) dX1_excess_12 (fun q39 eq39 hq39 tq39 => ?_)
    have tq39 : τ q39 = (120, lw) := tq39
    refine lv_iload_n hx hb dX1_excess_15 rfl (lv_at hl37 4 rfl) ?_
    obtain ⟨v40, ev40, tv40⟩ : ∃ v : Int32, Int32.ofInt (1) = v ∧ v.toInt = 1 := ⟨_, rfl, by decide +kernel⟩
    refine lv_iconst hx hb dX1_excess_16 ev40 ?_
    refine lv_isub hx hb dX1_excess_17 ?_
    refine lv_topi (fun v41 ev41 => ?_)
    have tv41 := nu_sub ev41 (by omega) (by omega)
    refine tr_iald Z.1 Z.2.2.2.1 S0.1 S0.2 hq39 tq39 rfl (by omega) (by show _ < ((((lw) / 2 % 8 : Nat)) : Int); omega) dX1_excess_18 (fun v42 ev42 lv42 uv42 => ?_)
    have rv42 := fb_rng v42
    have uv42 : v42.toInt ≤ (((lw) / 16 : Nat) : Int) := uv42
    exact J19 v35 v42 s.heap [] l36 S0 (by omega) (by omega) (by omega) (by omega) (by omega) (by omega) (by omega) (lv_sub hl37 [1, 2, 3, 4, 0] rfl)
  · skip
    have tc38 := nu_eq c38
    have uc38 : (0 : Int32).toInt = 0 := rfl
    obtain ⟨v43, ev43, tv43⟩ : ∃ v : Int32, Int32.ofInt (0) = v ∧ v.toInt = 0 := ⟨_, rfl, by decide +kernel⟩
    refine lv_iconst hx hb dX1_excess_7 ev43 ?_
    refine lv_goto (tgt := 19) hx hb dX1_excess_8 (by decide) ?_
    exact J19 v35 v43 s.heap [] l36 S0 (by omega) (by omega) (by omega) (by omega) (by omega) (by omega) (by omega) (lv_sub hl37 [1, 2, 3, 4, 0] rfl)

set_option maxHeartbeats 4000000 in
set_option maxRecDepth 100000 in
theorem k_X1_excess_v1 (l : Launch) (D : va_G) (cy : Nat → ClassId) {L : List Nat} {τ : Nat → Ro} {E : Ec} (hI : Inv TB cy L τ E) {lw : Nat} {a0 : Nat} (ha0 : a0 ∈ L) (ta0 : τ a0 = (10, lw)) {a1 : Nat} (ha1 : a1 ∈ L) (ta1 : τ a1 = (5, 1)) (a2 : Int32) (la2 : 0 ≤ a2.toInt) (ua2 : a2.toInt ≤ 65) (a3 : Int32) (la3 : 0 ≤ a3.toInt) (ua3 : a3.toInt ≤ 7) (hk : a2.toInt + ((lw % 2 : Nat) : Int) ≤ 65) (hr : a3.toInt < ((lw / 2 % 8 : Nat) : Int)) : CtI l yX1_excess wsX1_excess { frames := 0, cells := 0, slots := 0, locals := 0 } D TB cy L τ E [.ref a0, .ref a1, .int a2, .int a3] (inW []) (fun r E' => E' = E) := by
  intro sz
  refine sta (cc := cX1_excess) (maxL := 6) hI (by decide) rfl (Nat.le_of_ble_eq_true rfl) (fun p e s m args below meth c ls hsz Z S0 hl => ?_)
  have hx := Z.1.1
  have hb := Z.1.2.1
  have hts := Z.1.2.2.2.2
  have F0_ : Fr L τ (inW []) E E := Fr.refl
  have hl : lv_has ls 6 [(0, .ref a0), (1, .ref a1), (2, .int a2), (3, .int a3)] := hl
  generalize hQ : MQ below _ args s 0 0 _ = QQ
  have J21 : ∀ (n : Nat) (x4_21 : Int32) (x5_21 : Int32) (H_21 : Heap) (k_21 : List Loc) (l_21 : Array Slot), Now D TB cy (va_A (va_pl L E) sz) s L τ E H_21 k_21 → (0 ≤ a2.toInt) → (a2.toInt ≤ 65) → (0 ≤ a3.toInt) → (a3.toInt ≤ 7) → (0 ≤ x5_21.toInt) → (2147483647 - x5_21.toInt).toNat < n → lv_has l_21 6 [(0, .ref a0), (1, .ref a1), (2, .int a2), (3, .int a3), (4, .int x4_21), (5, .int x5_21)] → W p l e { frames := 0, cells := 0, slots := 0, locals := 0 } s m args below meth c H_21 k_21 0 0 QQ (F0 m 21 l_21 []) := by
    intro n
    induction n with
    | zero => intro x4_21 x5_21 H_21 k_21 l_21 S_21 z1 z2 z3 z4 z5 hm hl_21; exact absurd hm (Nat.not_lt_zero _)
    | succ n ih =>
      intro x4_21 x5_21 H_21 k_21 l_21 S_21 z1 z2 z3 z4 z5 hm hl_21
      have ih_21 := ih
      refine lv_iload hx hb dX1_excess_21 (lv_at hl_21 5 rfl) ?_
      refine lv_aload_n hx hb dX1_excess_23 rfl (lv_at hl_21 0 rfl) ?_
      refine tr_getr Z.1 Z.2.2.2.1 S_21.1 S_21.2 ha0 ta0 rfl rfl (fun _ h => List.mem_cons_of_mem _ (List.mem_append_left _ (List.mem_append_right _ h))) 2 (by decide) rfl (hts _ (List.mem_of_getElem? (i := 1) rfl)) dX1_excess_24 (fun q6 eq6 hq6 tq6 => ?_)
      have tq6 : τ q6 = (120, lw) := tq6
      refine lv_iload_n hx hb dX1_excess_27 rfl (lv_at hl_21 3 rfl) ?_
      refine tr_iald Z.1 Z.2.2.2.1 S_21.1 S_21.2 hq6 tq6 rfl (by omega) (by show _ < ((((lw) / 2 % 8 : Nat)) : Int); omega) dX1_excess_28 (fun v7 ev7 lv7 uv7 => ?_)
      have rv7 := fb_rng v7
      have uv7 : v7.toInt ≤ (((lw) / 16 : Nat) : Int) := uv7
      refine lv_icmp_ge (tgt := 73) hx hb dX1_excess_29 (by decide) (fun c8 => ?_) (fun c8 => ?_)
      · skip
        have tc8 := nu_le c8
        refine lv_iload hx hb dX1_excess_73 (lv_at hl_21 4 rfl) ?_
        rw [← hQ]
        exact en_i Z S_21 F0_ rfl dX1_excess_75
      · skip
        have tc8 := nu_nle c8
        refine lv_iload hx hb dX1_excess_32 (lv_at hl_21 4 rfl) ?_
        refine lv_aload_n hx hb dX1_excess_34 rfl (lv_at hl_21 0 rfl) ?_
        refine tr_getr Z.1 Z.2.2.2.1 S_21.1 S_21.2 ha0 ta0 rfl rfl (fun _ h => List.mem_cons_of_mem _ (List.mem_append_left _ (List.mem_append_right _ h))) 3 (by decide) rfl (hts _ (List.mem_of_getElem? (i := 2) rfl)) dX1_excess_35 (fun q9 eq9 hq9 tq9 => ?_)
        have tq9 : τ q9 = (121, lw) := tq9
        refine lv_iload hx hb dX1_excess_38 (lv_at hl_21 5 rfl) ?_
        refine tr_iald Z.1 Z.2.2.2.1 S_21.1 S_21.2 hq9 tq9 rfl (by omega) (by show _ < ((((lw) / 16 : Nat)) : Int); omega) dX1_excess_40 (fun v10 ev10 lv10 uv10 => ?_)
        have rv10 := fb_rng v10
        refine lv_aload_n hx hb dX1_excess_41 rfl (lv_at hl_21 1 rfl) ?_
        refine tr_getr Z.1 Z.2.2.2.1 S_21.1 S_21.2 ha1 ta1 rfl rfl (fun _ h => List.mem_cons_of_mem _ (List.mem_append_right _ h)) 0 (by decide) rfl (hts _ (List.mem_of_getElem? (i := 3) rfl)) dX1_excess_42 (fun q11 eq11 hq11 tq11 => ?_)
        have tq11 : τ q11 = (30, 1) := tq11
        refine lv_aload_n hx hb dX1_excess_45 rfl (lv_at hl_21 0 rfl) ?_
        refine tr_getr Z.1 Z.2.2.2.1 S_21.1 S_21.2 ha0 ta0 rfl rfl (fun _ h => List.mem_cons_of_mem _ (List.mem_append_left _ (List.mem_append_right _ h))) 4 (by decide) rfl (hts _ (List.mem_of_getElem? (i := 4) rfl)) dX1_excess_46 (fun q12 eq12 hq12 tq12 => ?_)
        have tq12 : τ q12 = (122, lw) := tq12
        refine lv_iload hx hb dX1_excess_49 (lv_at hl_21 5 rfl) ?_
        refine tr_iald Z.1 Z.2.2.2.1 S_21.1 S_21.2 hq12 tq12 rfl (by omega) (by show _ < ((((lw) / 16 : Nat)) : Int); omega) dX1_excess_51 (fun v13 ev13 lv13 uv13 => ?_)
        have rv13 := fb_rng v13
        refine tr_aaldr (ra := 100 + ((v13.toNatClampNeg : Nat) : Int)) (rb := 1) Z.1 Z.2.2.2.1 S_21.1 S_21.2 hq11 tq11 rfl rfl rfl rfl (by omega) (by omega) dX1_excess_52 (fun q14 eq14 hq14 tq14 => ?_)
        have nq14 : v13.toNatClampNeg ≤ 12 := by show v13.toInt.toNat ≤ 12; omega
        have tq14 : τ q14 = (100 + v13.toNatClampNeg, 1) := tq14.trans (Prod.ext (by show (100 + ((v13.toNatClampNeg : Nat) : Int)).toNat = 100 + v13.toNatClampNeg; omega) rfl)
        refine lv_iload_n hx hb dX1_excess_53 rfl (lv_at hl_21 2 rfl) ?_
        refine lv_aload_n hx hb dX1_excess_54 rfl (lv_at hl_21 0 rfl) ?_
        refine tr_getr Z.1 Z.2.2.2.1 S_21.1 S_21.2 ha0 ta0 rfl rfl (fun _ h => List.mem_cons_of_mem _ (List.mem_append_left _ (List.mem_append_right _ h))) 5 (by decide) rfl (hts _ (List.mem_of_getElem? (i := 5) rfl)) dX1_excess_55 (fun q15 eq15 hq15 tq15 => ?_)
        have tq15 : τ q15 = (123, lw) := tq15
        refine lv_iload hx hb dX1_excess_58 (lv_at hl_21 5 rfl) ?_
        refine tr_iald Z.1 Z.2.2.2.1 S_21.1 S_21.2 hq15 tq15 rfl (by omega) (by show _ < ((((lw) / 16 : Nat)) : Int); omega) dX1_excess_60 (fun v16 ev16 lv16 uv16 => ?_)
        have rv16 := fb_rng v16
        have uv16 : v16.toInt ≤ (((lw) % 2 : Nat) : Int) := uv16
        refine lv_iadd hx hb dX1_excess_61 ?_
        refine lv_topi (fun v17 ev17 => ?_)
        have tv17 := nu_add ev17 (by omega) (by omega)
        refine tr_ialdw Z.1 Z.2.2.2.1 S_21.1 S_21.2 hq14 tq14 (row_tab (by omega)) (by omega) (by omega) dX1_excess_62 (fun v18 ev18 => ?_)
        refine lv_imul hx hb dX1_excess_63 ?_
        refine lv_topi (fun v19 ev19 => ?_)
        refine lv_iadd hx hb dX1_excess_64 ?_
        refine lv_topi (fun v20 ev20 => ?_)
        refine lv_istore (lv' := [(4, .int v20), (0, .ref a0), (1, .ref a1), (2, .int a2), (3, .int a3), (5, .int x5_21)]) hx hb dX1_excess_65 hl_21 (by decide) rfl (fun l21 hl22 => ?_)
        obtain ⟨v23, ev23⟩ : ∃ y : Int32, x5_21 + Int32.ofInt (1) = y := ⟨_, rfl⟩
        have tv23 : v23.toInt = x5_21.toInt + (1) := by rw [← ev23]; exact (fb_addI (by rw [show (Int32.ofInt (1)).toInt = 1 from by decide +kernel]; omega) (by rw [show (Int32.ofInt (1)).toInt = 1 from by decide +kernel]; omega)).trans (by rw [show (Int32.ofInt (1)).toInt = 1 from by decide +kernel])
        refine lv_iinc (v := v23) (lv' := [(5, .int v23), (4, .int v20), (0, .ref a0), (1, .ref a1), (2, .int a2), (3, .int a3)]) hx hb dX1_excess_67 hl22 (k := 5) rfl ev23 (by decide) rfl (fun l24 hl25 => ?_)
        refine lv_goto (tgt := 21) hx hb dX1_excess_70 (by decide) ?_
        exact ih_21 v20 v23 H_21 k_21 l24 S_21 (by have := fb_rng v23; have := fb_rng v20; omega) (by have := fb_rng v23; have := fb_rng v20; omega) (by have := fb_rng v23; have := fb_rng v20; omega) (by have := fb_rng v23; have := fb_rng v20; omega) (by have := fb_rng v23; have := fb_rng v20; omega) (by omega) (lv_sub hl25 [2, 3, 4, 5, 1, 0] rfl)
  have J19 : ∀ (x4_19 : Int32) (y0_19 : Int32) (H_19 : Heap) (k_19 : List Loc) (l_19 : Array Slot), Now D TB cy (va_A (va_pl L E) sz) s L τ E H_19 k_19 → (0 ≤ a2.toInt) → (a2.toInt ≤ 65) → (0 ≤ a3.toInt) → (a3.toInt ≤ 7) → (0 ≤ x4_19.toInt) → (x4_19.toInt ≤ 0) → (0 ≤ y0_19.toInt) → lv_has l_19 6 [(0, .ref a0), (1, .ref a1), (2, .int a2), (3, .int a3), (4, .int x4_19)] → W p l e { frames := 0, cells := 0, slots := 0, locals := 0 } s m args below meth c H_19 k_19 0 0 QQ (F0 m 19 l_19 [.int y0_19]) := by
    intro x4_19 y0_19 H_19 k_19 l_19 S_19 z26 z27 z28 z29 z30 z31 z32 hl_19
    refine lv_istore (lv' := [(5, .int y0_19), (0, .ref a0), (1, .ref a1), (2, .int a2), (3, .int a3), (4, .int x4_19)]) hx hb dX1_excess_19 hl_19 (by decide) rfl (fun l33 hl34 => ?_)
    exact J21 _ x4_19 y0_19 H_19 k_19 l33 S_19 (by have := fb_rng y0_19; omega) (by have := fb_rng y0_19; omega) (by have := fb_rng y0_19; omega) (by have := fb_rng y0_19; omega) (by have := fb_rng y0_19; omega) (Nat.lt_succ_self _) (lv_sub hl34 [1, 2, 3, 4, 5, 0] rfl)
  obtain ⟨v35, ev35, tv35⟩ : ∃ v : Int32, Int32.ofInt (0) = v ∧ v.toInt = 0 := ⟨_, rfl, by decide +kernel⟩
  refine lv_iconst hx hb dX1_excess_0 ev35 ?_
  refine lv_istore (lv' := [(4, .int v35), (0, .ref a0), (1, .ref a1), (2, .int a2), (3, .int a3)]) hx hb dX1_excess_1 hl (by decide) rfl (fun l36 hl37 => ?_)
  refine lv_iload_n hx hb dX1_excess_3 rfl (lv_at hl37 4 rfl) ?_
  refine lv_if_ne (tgt := 11) hx hb dX1_excess_4 (by decide) (fun c38 => ?_) (fun c38 => ?_)
  · skip
    have tc38 := nu_ne c38
    have uc38 : (0 : Int32).toInt = 0 := rfl
    refine lv_aload_n hx hb dX1_excess_11 rfl (lv_at hl37 1 rfl) ?_
    refine tr_getr Z.1 Z.2.2.2.1 S0.1 S0.2 ha0 ta0 rfl rfl (fun _ h => List.mem_cons_of_mem _ (List.mem_append_left _ (List.mem_append_right _ h))) 2 (by decide) rfl (hts _ (List.mem_of_getElem? (i := 1) rfl)) dX1_excess_12 (fun q39 eq39 hq39 tq39 => ?_)
    have tq39 : τ q39 = (120, lw) := tq39
    refine lv_iload_n hx hb dX1_excess_15 rfl (lv_at hl37 4 rfl) ?_
    obtain ⟨v40, ev40, tv40⟩ : ∃ v : Int32, Int32.ofInt (1) = v ∧ v.toInt = 1 := ⟨_, rfl, by decide +kernel⟩
    refine lv_iconst hx hb dX1_excess_16 ev40 ?_
    refine lv_isub hx hb dX1_excess_17 ?_
    refine lv_topi (fun v41 ev41 => ?_)
    have tv41 := nu_sub ev41 (by omega) (by omega)
    refine tr_iald Z.1 Z.2.2.2.1 S0.1 S0.2 hq39 tq39 rfl (by omega) (by show _ < ((((lw) / 2 % 8 : Nat)) : Int); omega) dX1_excess_18 (fun v42 ev42 lv42 uv42 => ?_)
    have rv42 := fb_rng v42
    have uv42 : v42.toInt ≤ (((lw) / 16 : Nat) : Int) := uv42
    exact J19 v35 v42 s.heap [] l36 S0 (by omega) (by omega) (by omega) (by omega) (by omega) (by omega) (by omega) (lv_sub hl37 [1, 2, 3, 4, 0] rfl)
  · skip
    have tc38 := nu_eq c38
    have uc38 : (0 : Int32).toInt = 0 := rfl
    obtain ⟨v43, ev43, tv43⟩ : ∃ v : Int32, Int32.ofInt (0) = v ∧ v.toInt = 0 := ⟨_, rfl, by decide +kernel⟩
    refine lv_iconst hx hb dX1_excess_7 ev43 ?_
    refine lv_goto (tgt := 19) hx hb dX1_excess_8 (by decide) ?_
    exact J19 v35 v43 s.heap [] l36 S0 (by omega) (by omega) (by omega) (by omega) (by omega) (by omega) (by omega) (lv_sub hl37 [1, 2, 3, 4, 0] rfl)

set_option maxRecDepth 20000 in
theorem ggX1_failing_X1_excess : GoodIn wsX1_failing wsX1_excess := goodIn_r _ [6, 1, 7, 8, 9, 10, 11, 12, 13, 14, 15, 16, 17, 18, 19, 20, 21] (by decide +kernel) (by decide +kernel)
set_option maxRecDepth 20000 in
theorem gX1_failing_X1_excess : GoodIn wsX1_failing (wsV RX1 52 RX1 yX1_excess wsX1_excess) := goodIn_app (goodIn_of _ (by decide +kernel)) ggX1_failing_X1_excess
theorem dX1_failing_0 : decode cX1_failing 0 = .ok (.iconst 0, 1) := by decide +kernel
theorem dX1_failing_1 : decode cX1_failing 1 = .ok (.istore_n 3, 1) := by decide +kernel
theorem dX1_failing_2 : decode cX1_failing 2 = .ok (.iload_n 3, 1) := by decide +kernel
theorem dX1_failing_3 : decode cX1_failing 3 = .ok (.aload_n 0, 1) := by decide +kernel
theorem dX1_failing_4 : decode cX1_failing 4 = .ok (.getfield 36, 3) := by decide +kernel
theorem dX1_failing_7 : decode cX1_failing 7 = .ok (.arraylength, 1) := by decide +kernel
theorem dX1_failing_8 : decode cX1_failing 8 = .ok (.if_icmp .ge 21, 3) := by decide +kernel
theorem dX1_failing_11 : decode cX1_failing 11 = .ok (.aload_n 0, 1) := by decide +kernel
theorem dX1_failing_12 : decode cX1_failing 12 = .ok (.aload_n 1, 1) := by decide +kernel
theorem dX1_failing_13 : decode cX1_failing 13 = .ok (.iload_n 2, 1) := by decide +kernel
theorem dX1_failing_14 : decode cX1_failing 14 = .ok (.iload_n 3, 1) := by decide +kernel
theorem dX1_failing_15 : decode cX1_failing 15 = .ok (.invokevirtual 52, 3) := by decide +kernel
theorem dX1_failing_18 : decode cX1_failing 18 = .ok (.ifCond .le 5, 3) := by decide +kernel
theorem dX1_failing_21 : decode cX1_failing 21 = .ok (.iload_n 3, 1) := by decide +kernel
theorem dX1_failing_22 : decode cX1_failing 22 = .ok (.ireturn, 1) := by decide +kernel
theorem dX1_failing_23 : decode cX1_failing 23 = .ok (.iinc 3 1, 3) := by decide +kernel
theorem dX1_failing_26 : decode cX1_failing 26 = .ok (.goto (-24), 3) := by decide +kernel
theorem dX1_failing_29 : decode cX1_failing 29 = .ok (.iconst (-1), 1) := by decide +kernel
theorem dX1_failing_30 : decode cX1_failing 30 = .ok (.ireturn, 1) := by decide +kernel
set_option maxHeartbeats 4000000 in
set_option maxRecDepth 100000 in
theorem k_X1_failing_v0 (l : Launch) (D : va_G) (cy : Nat → ClassId) {L : List Nat} {τ : Nat → Ro} {E : Ec} (hI : Inv TB cy L τ E) {lw : Nat} {a0 : Nat} (ha0 : a0 ∈ L) (ta0 : τ a0 = (10, lw)) {a1 : Nat} (ha1 : a1 ∈ L) (ta1 : τ a1 = (5, 0)) (a2 : Int32) (la2 : 0 ≤ a2.toInt) (ua2 : a2.toInt ≤ 65) (hk : a2.toInt + ((lw % 2 : Nat) : Int) ≤ 65) : CtI l yX1_failing wsX1_failing { frames := 1, cells := 0, slots := 0, locals := 25 } D TB cy L τ E [.ref a0, .ref a1, .int a2] (inW []) (fun r E' => E' = E ∧ (r.toInt = -1 ∨ (0 ≤ r.toInt ∧ r.toInt < ((lw / 2 % 8 : Nat) : Int))) ∧ -1 ≤ r.toInt ∧ r.toInt ≤ 6) := by
  intro sz
  refine sta (cc := cX1_failing) (maxL := 4) hI (by decide) rfl (Nat.le_of_ble_eq_true rfl) (fun p e s m args below meth c ls hsz Z S0 hl => ?_)
  have hx := Z.1.1
  have hb := Z.1.2.1
  have hts := Z.1.2.2.2.2
  have F0_ : Fr L τ (inW []) E E := Fr.refl
  have hl : lv_has ls 4 [(0, .ref a0), (1, .ref a1), (2, .int a2)] := hl
  generalize hQ : MQ below _ args s 0 0 _ = QQ
  have J2 : ∀ (n : Nat) (x3_2 : Int32) (H_2 : Heap) (k_2 : List Loc) (l_2 : Array Slot), Now D TB cy (va_A (va_pl L E) sz) s L τ E H_2 k_2 → (0 ≤ a2.toInt) → (a2.toInt ≤ 65) → (0 ≤ x3_2.toInt) → (x3_2.toInt ≤ 7) → (7 - x3_2.toInt).toNat < n → lv_has l_2 4 [(0, .ref a0), (1, .ref a1), (2, .int a2), (3, .int x3_2)] → W p l e { frames := 1, cells := 0, slots := 0, locals := 25 } s m args below meth c H_2 k_2 0 0 QQ (F0 m 2 l_2 []) := by
    intro n
    induction n with
    | zero => intro x3_2 H_2 k_2 l_2 S_2 z1 z2 z3 z4 hm hl_2; exact absurd hm (Nat.not_lt_zero _)
    | succ n ih =>
      intro x3_2 H_2 k_2 l_2 S_2 z1 z2 z3 z4 hm hl_2
      have ih_2 := ih
      refine lv_iload_n hx hb dX1_failing_2 rfl (lv_at hl_2 3 rfl) ?_
      refine lv_aload_n hx hb dX1_failing_3 rfl (lv_at hl_2 0 rfl) ?_
      refine tr_getr Z.1 Z.2.2.2.1 S_2.1 S_2.2 ha0 ta0 rfl rfl (fun _ h => List.mem_cons_of_mem _ (List.mem_append_left _ (List.mem_append_right _ h))) 2 (by decide) rfl (hts _ (List.mem_of_getElem? (i := 1) rfl)) dX1_failing_4 (fun q5 eq5 hq5 tq5 => ?_)
      have tq5 : τ q5 = (120, lw) := tq5
      refine tr_alen Z.1 Z.2.2.2.1 S_2.1 S_2.2 hq5 tq5 rfl (by show (_ : Nat) < _; omega) dX1_failing_7 (fun v6 tv6 => ?_)
      have tv6 : v6.toInt = (((lw) / 2 % 8 : Nat) : Int) := tv6
      refine lv_icmp_ge (tgt := 29) hx hb dX1_failing_8 (by decide) (fun c7 => ?_) (fun c7 => ?_)
      · skip
        have tc7 := nu_le c7
        obtain ⟨v8, ev8, tv8⟩ : ∃ v : Int32, Int32.ofInt (-1) = v ∧ v.toInt = -1 := ⟨_, rfl, by decide +kernel⟩
        refine lv_iconst hx hb dX1_failing_29 ev8 ?_
        rw [← hQ]
        exact en_i Z S_2 F0_ ⟨rfl, (by omega), (by omega), (by omega)⟩ dX1_failing_30
      · skip
        have tc7 := nu_nle c7
        refine lv_aload_n hx hb dX1_failing_11 rfl (lv_at hl_2 0 rfl) ?_
        refine lv_aload_n hx hb dX1_failing_12 rfl (lv_at hl_2 1 rfl) ?_
        refine lv_iload_n hx hb dX1_failing_13 rfl (lv_at hl_2 2 rfl) ?_
        refine lv_iload_n hx hb dX1_failing_14 rfl (lv_at hl_2 3 rfl) ?_
        refine tc_vi Z.1 Z.2.2.2.1 Z.2.2.2.2.1 Z.2.2.2.2.2 S_2.1 S_2.2 ha0 ta0 rfl rfl (k_X1_excess_v0 l D cy S_2.2 ha0 ta0 ha1 ta1 a2 (by omega) (by omega) x3_2 (by omega) (by omega) (by omega) (by omega)) (cwV 3 hts gX1_failing_X1_excess rfl rfl rfl (by decide +kernel) ⟨Nat.le_of_ble_eq_true rfl, Nat.le_of_ble_eq_true rfl⟩) rfl hl_2.1 rfl (Nat.le_of_ble_eq_true rfl) dX1_failing_15 ⟨Nat.zero_le _, Nat.zero_le _⟩ (fun v12 E9 H10 k11 W9 I9 G9 p9 => ?_)
        have q9 := p9
        have q9 := q9.symm
        subst q9
        have S9 : Now D TB cy (va_A (va_pl L E) sz) s L τ E H10 k11 := ⟨W9, I9⟩
        refine lv_if_le (tgt := 23) hx hb dX1_failing_18 (by decide) (fun c13 => ?_) (fun c13 => ?_)
        · skip
          have tc13 := nu_le c13
          have uc13 : (0 : Int32).toInt = 0 := rfl
          obtain ⟨v14, ev14⟩ : ∃ y : Int32, x3_2 + Int32.ofInt (1) = y := ⟨_, rfl⟩
          have tv14 : v14.toInt = x3_2.toInt + (1) := by rw [← ev14]; exact (fb_addI (by rw [show (Int32.ofInt (1)).toInt = 1 from by decide +kernel]; omega) (by rw [show (Int32.ofInt (1)).toInt = 1 from by decide +kernel]; omega)).trans (by rw [show (Int32.ofInt (1)).toInt = 1 from by decide +kernel])
          refine lv_iinc (v := v14) (lv' := [(3, .int v14), (0, .ref a0), (1, .ref a1), (2, .int a2)]) hx hb dX1_failing_23 hl_2 (k := 3) rfl ev14 (by decide) rfl (fun l15 hl16 => ?_)
          refine lv_goto (tgt := 2) hx hb dX1_failing_26 (by decide) ?_
          exact ih_2 v14 H10 k11 l15 S9 (by omega) (by omega) (by omega) (by omega) (by omega) (lv_sub hl16 [1, 2, 3, 0] rfl)
        · skip
          have tc13 := nu_nle c13
          have uc13 : (0 : Int32).toInt = 0 := rfl
          refine lv_iload_n hx hb dX1_failing_21 rfl (lv_at hl_2 3 rfl) ?_
          rw [← hQ]
          exact en_i Z S9 F0_ ⟨rfl, (by omega), (by omega), (by omega)⟩ dX1_failing_22
  obtain ⟨v17, ev17, tv17⟩ : ∃ v : Int32, Int32.ofInt (0) = v ∧ v.toInt = 0 := ⟨_, rfl, by decide +kernel⟩
  refine lv_iconst hx hb dX1_failing_0 ev17 ?_
  refine lv_istore_n (lv' := [(3, .int v17), (0, .ref a0), (1, .ref a1), (2, .int a2)]) hx hb dX1_failing_1 rfl hl (by decide) rfl (fun l18 hl19 => ?_)
  exact J2 _ v17 s.heap [] l18 S0 (by omega) (by omega) (by omega) (by omega) (Nat.lt_succ_self _) (lv_sub hl19 [1, 2, 3, 0] rfl)

set_option maxHeartbeats 4000000 in
set_option maxRecDepth 100000 in
theorem k_X1_failing_v1 (l : Launch) (D : va_G) (cy : Nat → ClassId) {L : List Nat} {τ : Nat → Ro} {E : Ec} (hI : Inv TB cy L τ E) {lw : Nat} {a0 : Nat} (ha0 : a0 ∈ L) (ta0 : τ a0 = (10, lw)) {a1 : Nat} (ha1 : a1 ∈ L) (ta1 : τ a1 = (5, 1)) (a2 : Int32) (la2 : 0 ≤ a2.toInt) (ua2 : a2.toInt ≤ 65) (hk : a2.toInt + ((lw % 2 : Nat) : Int) ≤ 65) : CtI l yX1_failing wsX1_failing { frames := 1, cells := 0, slots := 0, locals := 25 } D TB cy L τ E [.ref a0, .ref a1, .int a2] (inW []) (fun r E' => E' = E ∧ (r.toInt = -1 ∨ (0 ≤ r.toInt ∧ r.toInt < ((lw / 2 % 8 : Nat) : Int))) ∧ -1 ≤ r.toInt ∧ r.toInt ≤ 6) := by
  intro sz
  refine sta (cc := cX1_failing) (maxL := 4) hI (by decide) rfl (Nat.le_of_ble_eq_true rfl) (fun p e s m args below meth c ls hsz Z S0 hl => ?_)
  have hx := Z.1.1
  have hb := Z.1.2.1
  have hts := Z.1.2.2.2.2
  have F0_ : Fr L τ (inW []) E E := Fr.refl
  have hl : lv_has ls 4 [(0, .ref a0), (1, .ref a1), (2, .int a2)] := hl
  generalize hQ : MQ below _ args s 0 0 _ = QQ
  have J2 : ∀ (n : Nat) (x3_2 : Int32) (H_2 : Heap) (k_2 : List Loc) (l_2 : Array Slot), Now D TB cy (va_A (va_pl L E) sz) s L τ E H_2 k_2 → (0 ≤ a2.toInt) → (a2.toInt ≤ 65) → (0 ≤ x3_2.toInt) → (x3_2.toInt ≤ 7) → (7 - x3_2.toInt).toNat < n → lv_has l_2 4 [(0, .ref a0), (1, .ref a1), (2, .int a2), (3, .int x3_2)] → W p l e { frames := 1, cells := 0, slots := 0, locals := 25 } s m args below meth c H_2 k_2 0 0 QQ (F0 m 2 l_2 []) := by
    intro n
    induction n with
    | zero => intro x3_2 H_2 k_2 l_2 S_2 z1 z2 z3 z4 hm hl_2; exact absurd hm (Nat.not_lt_zero _)
    | succ n ih =>
      intro x3_2 H_2 k_2 l_2 S_2 z1 z2 z3 z4 hm hl_2
      have ih_2 := ih
      refine lv_iload_n hx hb dX1_failing_2 rfl (lv_at hl_2 3 rfl) ?_
      refine lv_aload_n hx hb dX1_failing_3 rfl (lv_at hl_2 0 rfl) ?_
      refine tr_getr Z.1 Z.2.2.2.1 S_2.1 S_2.2 ha0 ta0 rfl rfl (fun _ h => List.mem_cons_of_mem _ (List.mem_append_left _ (List.mem_append_right _ h))) 2 (by decide) rfl (hts _ (List.mem_of_getElem? (i := 1) rfl)) dX1_failing_4 (fun q5 eq5 hq5 tq5 => ?_)
      have tq5 : τ q5 = (120, lw) := tq5
      refine tr_alen Z.1 Z.2.2.2.1 S_2.1 S_2.2 hq5 tq5 rfl (by show (_ : Nat) < _; omega) dX1_failing_7 (fun v6 tv6 => ?_)
      have tv6 : v6.toInt = (((lw) / 2 % 8 : Nat) : Int) := tv6
      refine lv_icmp_ge (tgt := 29) hx hb dX1_failing_8 (by decide) (fun c7 => ?_) (fun c7 => ?_)
      · skip
        have tc7 := nu_le c7
        obtain ⟨v8, ev8, tv8⟩ : ∃ v : Int32, Int32.ofInt (-1) = v ∧ v.toInt = -1 := ⟨_, rfl, by decide +kernel⟩
        refine lv_iconst hx hb dX1_failing_29 ev8 ?_
        rw [← hQ]
        exact en_i Z S_2 F0_ ⟨rfl, (by omega), (by omega), (by omega)⟩ dX1_failing_30
      · skip
        have tc7 := nu_nle c7
        refine lv_aload_n hx hb dX1_failing_11 rfl (lv_at hl_2 0 rfl) ?_
        refine lv_aload_n hx hb dX1_failing_12 rfl (lv_at hl_2 1 rfl) ?_
        refine lv_iload_n hx hb dX1_failing_13 rfl (lv_at hl_2 2 rfl) ?_
        refine lv_iload_n hx hb dX1_failing_14 rfl (lv_at hl_2 3 rfl) ?_
        refine tc_vi Z.1 Z.2.2.2.1 Z.2.2.2.2.1 Z.2.2.2.2.2 S_2.1 S_2.2 ha0 ta0 rfl rfl (k_X1_excess_v1 l D cy S_2.2 ha0 ta0 ha1 ta1 a2 (by omega) (by omega) x3_2 (by omega) (by omega) (by omega) (by omega)) (cwV 3 hts gX1_failing_X1_excess rfl rfl rfl (by decide +kernel) ⟨Nat.le_of_ble_eq_true rfl, Nat.le_of_ble_eq_true rfl⟩) rfl hl_2.1 rfl (Nat.le_of_ble_eq_true rfl) dX1_failing_15 ⟨Nat.zero_le _, Nat.zero_le _⟩ (fun v12 E9 H10 k11 W9 I9 G9 p9 => ?_)
        have q9 := p9
        have q9 := q9.symm
        subst q9
        have S9 : Now D TB cy (va_A (va_pl L E) sz) s L τ E H10 k11 := ⟨W9, I9⟩
        refine lv_if_le (tgt := 23) hx hb dX1_failing_18 (by decide) (fun c13 => ?_) (fun c13 => ?_)
        · skip
          have tc13 := nu_le c13
          have uc13 : (0 : Int32).toInt = 0 := rfl
          obtain ⟨v14, ev14⟩ : ∃ y : Int32, x3_2 + Int32.ofInt (1) = y := ⟨_, rfl⟩
          have tv14 : v14.toInt = x3_2.toInt + (1) := by rw [← ev14]; exact (fb_addI (by rw [show (Int32.ofInt (1)).toInt = 1 from by decide +kernel]; omega) (by rw [show (Int32.ofInt (1)).toInt = 1 from by decide +kernel]; omega)).trans (by rw [show (Int32.ofInt (1)).toInt = 1 from by decide +kernel])
          refine lv_iinc (v := v14) (lv' := [(3, .int v14), (0, .ref a0), (1, .ref a1), (2, .int a2)]) hx hb dX1_failing_23 hl_2 (k := 3) rfl ev14 (by decide) rfl (fun l15 hl16 => ?_)
          refine lv_goto (tgt := 2) hx hb dX1_failing_26 (by decide) ?_
          exact ih_2 v14 H10 k11 l15 S9 (by omega) (by omega) (by omega) (by omega) (by omega) (lv_sub hl16 [1, 2, 3, 0] rfl)
        · skip
          have tc13 := nu_nle c13
          have uc13 : (0 : Int32).toInt = 0 := rfl
          refine lv_iload_n hx hb dX1_failing_21 rfl (lv_at hl_2 3 rfl) ?_
          rw [← hQ]
          exact en_i Z S9 F0_ ⟨rfl, (by omega), (by omega), (by omega)⟩ dX1_failing_22
  obtain ⟨v17, ev17, tv17⟩ : ∃ v : Int32, Int32.ofInt (0) = v ∧ v.toInt = 0 := ⟨_, rfl, by decide +kernel⟩
  refine lv_iconst hx hb dX1_failing_0 ev17 ?_
  refine lv_istore_n (lv' := [(3, .int v17), (0, .ref a0), (1, .ref a1), (2, .int a2)]) hx hb dX1_failing_1 rfl hl (by decide) rfl (fun l18 hl19 => ?_)
  exact J2 _ v17 s.heap [] l18 S0 (by omega) (by omega) (by omega) (by omega) (Nat.lt_succ_self _) (lv_sub hl19 [1, 2, 3, 0] rfl)

set_option maxRecDepth 20000 in
theorem ggX8_blame_X1_failing : GoodIn wsX8_blame wsX1_failing := goodIn_r _ [8, 9, 10, 11, 12, 7, 13, 14, 15, 16, 17, 23, 24, 25, 26, 27, 28, 29, 30, 31, 32, 33] (by decide +kernel) (by decide +kernel)
set_option maxRecDepth 20000 in
theorem gX8_blame_X1_failing : GoodIn wsX8_blame (wsV RX8 52 RX1 yX1_failing wsX1_failing) := goodIn_app (goodIn_of _ (by decide +kernel)) ggX8_blame_X1_failing
set_option maxRecDepth 20000 in
theorem ggX8_blame_X1_excess : GoodIn wsX8_blame wsX1_excess := goodIn_r _ [13, 9, 14, 15, 16, 17, 23, 24, 25, 26, 27, 28, 29, 30, 31, 32, 33] (by decide +kernel) (by decide +kernel)
set_option maxRecDepth 20000 in
theorem gX8_blame_X1_excess : GoodIn wsX8_blame (wsV RX8 60 RX1 yX1_excess wsX1_excess) := goodIn_app (goodIn_of _ (by decide +kernel)) ggX8_blame_X1_excess
theorem dX8_blame_0 : decode cX8_blame 0 = .ok (.aload_n 0, 1) := by decide +kernel
theorem dX8_blame_1 : decode cX8_blame 1 = .ok (.iload_n 3, 1) := by decide +kernel
theorem dX8_blame_2 : decode cX8_blame 2 = .ok (.putfield 15, 3) := by decide +kernel
theorem dX8_blame_5 : decode cX8_blame 5 = .ok (.iload_n 3, 1) := by decide +kernel
theorem dX8_blame_6 : decode cX8_blame 6 = .ok (.ifCond .lt 9, 3) := by decide +kernel
theorem dX8_blame_9 : decode cX8_blame 9 = .ok (.iload_n 3, 1) := by decide +kernel
theorem dX8_blame_10 : decode cX8_blame 10 = .ok (.iload 4, 2) := by decide +kernel
theorem dX8_blame_12 : decode cX8_blame 12 = .ok (.if_icmp .lt 14, 3) := by decide +kernel
theorem dX8_blame_15 : decode cX8_blame 15 = .ok (.aload_n 0, 1) := by decide +kernel
theorem dX8_blame_16 : decode cX8_blame 16 = .ok (.iconst 0, 1) := by decide +kernel
theorem dX8_blame_17 : decode cX8_blame 17 = .ok (.putfield 19, 3) := by decide +kernel
theorem dX8_blame_20 : decode cX8_blame 20 = .ok (.aload_n 0, 1) := by decide +kernel
theorem dX8_blame_21 : decode cX8_blame 21 = .ok (.iconst 1, 1) := by decide +kernel
theorem dX8_blame_22 : decode cX8_blame 22 = .ok (.putfield 22, 3) := by decide +kernel
theorem dX8_blame_25 : decode cX8_blame 25 = .ok (.return_, 1) := by decide +kernel
theorem dX8_blame_26 : decode cX8_blame 26 = .ok (.aload_n 0, 1) := by decide +kernel
theorem dX8_blame_27 : decode cX8_blame 27 = .ok (.aload_n 1, 1) := by decide +kernel
theorem dX8_blame_28 : decode cX8_blame 28 = .ok (.aload_n 2, 1) := by decide +kernel
theorem dX8_blame_29 : decode cX8_blame 29 = .ok (.iload_n 3, 1) := by decide +kernel
theorem dX8_blame_30 : decode cX8_blame 30 = .ok (.invokevirtual 52, 3) := by decide +kernel
theorem dX8_blame_33 : decode cX8_blame 33 = .ok (.putfield 19, 3) := by decide +kernel
theorem dX8_blame_36 : decode cX8_blame 36 = .ok (.aload_n 0, 1) := by decide +kernel
theorem dX8_blame_37 : decode cX8_blame 37 = .ok (.aload_n 0, 1) := by decide +kernel
theorem dX8_blame_38 : decode cX8_blame 38 = .ok (.getfield 19, 3) := by decide +kernel
theorem dX8_blame_41 : decode cX8_blame 41 = .ok (.iconst (-1), 1) := by decide +kernel
theorem dX8_blame_42 : decode cX8_blame 42 = .ok (.if_icmp .ne 7, 3) := by decide +kernel
theorem dX8_blame_45 : decode cX8_blame 45 = .ok (.iconst 0, 1) := by decide +kernel
theorem dX8_blame_46 : decode cX8_blame 46 = .ok (.goto 13, 3) := by decide +kernel
theorem dX8_blame_49 : decode cX8_blame 49 = .ok (.aload_n 1, 1) := by decide +kernel
theorem dX8_blame_50 : decode cX8_blame 50 = .ok (.aload_n 2, 1) := by decide +kernel
theorem dX8_blame_51 : decode cX8_blame 51 = .ok (.iload_n 3, 1) := by decide +kernel
theorem dX8_blame_52 : decode cX8_blame 52 = .ok (.aload_n 0, 1) := by decide +kernel
theorem dX8_blame_53 : decode cX8_blame 53 = .ok (.getfield 19, 3) := by decide +kernel
theorem dX8_blame_56 : decode cX8_blame 56 = .ok (.invokevirtual 60, 3) := by decide +kernel
theorem dX8_blame_59 : decode cX8_blame 59 = .ok (.putfield 22, 3) := by decide +kernel
theorem dX8_blame_62 : decode cX8_blame 62 = .ok (.return_, 1) := by decide +kernel
set_option maxHeartbeats 4000000 in
set_option maxRecDepth 100000 in
theorem k_X8_blame_v0 (l : Launch) (D : va_G) (cy : Nat → ClassId) {L : List Nat} {τ : Nat → Ro} {E : Ec} (hI : Inv TB cy L τ E) {lw : Nat} {a0 : Nat} (ha0 : a0 ∈ L) (ta0 : τ a0 = (6, 0)) {a1 : Nat} (ha1 : a1 ∈ L) (ta1 : τ a1 = (10, lw)) {a2 : Nat} (ha2 : a2 ∈ L) (ta2 : τ a2 = (5, 0)) (a3 : Int32) (a4 : Int32) (la4 : -1 ≤ a4.toInt) (ua4 : a4.toInt ≤ 66) (hk : a4.toInt + ((lw % 2 : Nat) : Int) ≤ 66) : CtV l yX8_blame wsX8_blame { frames := 2, cells := 0, slots := 0, locals := 48 } D TB cy L τ E [.ref a0, .ref a1, .ref a2, .int a3, .int a4] (inW [(6, 0)]) (fun E' => True) := by
  intro sz
  refine sta (cc := cX8_blame) (maxL := 5) hI (by decide) rfl (Nat.le_of_ble_eq_true rfl) (fun p e s m args below meth c ls hsz Z S0 hl => ?_)
  have hx := Z.1.1
  have hb := Z.1.2.1
  have hts := Z.1.2.2.2.2
  have F0_ : Fr L τ (inW [(6, 0)]) E E := Fr.refl
  have hl : lv_has ls 5 [(0, .ref a0), (1, .ref a1), (2, .ref a2), (3, .int a3), (4, .int a4)] := hl
  generalize hQ : MQ below _ args s 0 0 _ = QQ
  have J15 : ∀  (E_15 : Ec) (H_15 : Heap) (k_15 : List Loc) (l_15 : Array Slot), Now D TB cy (va_A (va_pl L E) sz) s L τ E_15 H_15 k_15 → Fr L τ (inW [(6, 0)]) E E_15 → lv_has l_15 5 [(0, .ref a0)] → W p l e { frames := 2, cells := 0, slots := 0, locals := 48 } s m args below meth c H_15 k_15 0 0 QQ (F0 m 15 l_15 []) := by
    intro  E_15 H_15 k_15 l_15 S_15 F_15  hl_15
    refine lv_aload_n hx hb dX8_blame_15 rfl (lv_at hl_15 0 rfl) ?_
    obtain ⟨v1, ev1, tv1⟩ : ∃ v : Int32, Int32.ofInt (0) = v ∧ v.toInt = 0 := ⟨_, rfl, by decide +kernel⟩
    refine lv_iconst hx hb dX8_blame_16 ev1 ?_
    refine tr_puti Z.1 Z.2.2.2.1 S_15.1 S_15.2 ha0 ta0 rfl rfl (fun _ h => List.mem_cons_of_mem _ (List.mem_append_left _ (List.mem_append_left _ (List.mem_append_right _ h)))) tyX8_ok nmX8 2 (by decide) rfl rfl rfl (hts _ (List.mem_of_getElem? (i := 2) rfl)) dX8_blame_17 (by have := fb_rng v1; omega) (by have := fb_rng v1; omega) (fun E2 H3 k4 W2 I2 P2 => ?_)
    have S2 : Now D TB cy (va_A (va_pl L E) sz) s L τ E2 H3 k4 := ⟨W2, I2⟩
    have F2 : Fr L τ (inW [(6, 0)]) E E2 := Fr.put F_15 P2 ta0 rfl
    refine lv_aload_n hx hb dX8_blame_20 rfl (lv_at hl_15 0 rfl) ?_
    obtain ⟨v5, ev5, tv5⟩ : ∃ v : Int32, Int32.ofInt (1) = v ∧ v.toInt = 1 := ⟨_, rfl, by decide +kernel⟩
    refine lv_iconst hx hb dX8_blame_21 ev5 ?_
    refine tr_puti Z.1 Z.2.2.2.1 S2.1 S2.2 ha0 ta0 rfl rfl (fun _ h => List.mem_cons_of_mem _ (List.mem_append_left _ (List.mem_append_left _ (List.mem_append_right _ h)))) tyX8_ok nmX8 3 (by decide) rfl rfl rfl (hts _ (List.mem_of_getElem? (i := 3) rfl)) dX8_blame_22 (by have := fb_rng v5; omega) (by have := fb_rng v5; omega) (fun E6 H7 k8 W6 I6 P6 => ?_)
    have S6 : Now D TB cy (va_A (va_pl L E) sz) s L τ E6 H7 k8 := ⟨W6, I6⟩
    have F6 : Fr L τ (inW [(6, 0)]) E E6 := Fr.put F2 P6 ta0 rfl
    rw [← hQ]
    exact en_v Z S6 F6 trivial dX8_blame_25
  refine lv_aload_n hx hb dX8_blame_0 rfl (lv_at hl 0 rfl) ?_
  refine lv_iload_n hx hb dX8_blame_1 rfl (lv_at hl 3 rfl) ?_
  refine tr_puti Z.1 Z.2.2.2.1 S0.1 S0.2 ha0 ta0 rfl rfl (fun _ h => List.mem_cons_of_mem _ (List.mem_append_left _ (List.mem_append_left _ (List.mem_append_right _ h)))) tyX8_ok nmX8 1 (by decide) rfl rfl rfl (hts _ (List.mem_of_getElem? (i := 1) rfl)) dX8_blame_2 (by have := fb_rng a3; omega) (by have := fb_rng a3; omega) (fun E9 H10 k11 W9 I9 P9 => ?_)
  have S9 : Now D TB cy (va_A (va_pl L E) sz) s L τ E9 H10 k11 := ⟨W9, I9⟩
  have F9 : Fr L τ (inW [(6, 0)]) E E9 := Fr.put F0_ P9 ta0 rfl
  refine lv_iload_n hx hb dX8_blame_5 rfl (lv_at hl 3 rfl) ?_
  refine lv_if_lt (tgt := 15) hx hb dX8_blame_6 (by decide) (fun c12 => ?_) (fun c12 => ?_)
  · skip
    have tc12 := nu_lt c12
    have uc12 : (0 : Int32).toInt = 0 := rfl
    exact J15 E9 H10 k11 ls S9 F9 (lv_sub hl [0] rfl)
  · skip
    have tc12 := nu_nlt c12
    have uc12 : (0 : Int32).toInt = 0 := rfl
    refine lv_iload_n hx hb dX8_blame_9 rfl (lv_at hl 3 rfl) ?_
    refine lv_iload hx hb dX8_blame_10 (lv_at hl 4 rfl) ?_
    refine lv_icmp_lt (tgt := 26) hx hb dX8_blame_12 (by decide) (fun c13 => ?_) (fun c13 => ?_)
    · skip
      have tc13 := nu_lt c13
      refine lv_aload_n hx hb dX8_blame_26 rfl (lv_at hl 0 rfl) ?_
      refine lv_aload_n hx hb dX8_blame_27 rfl (lv_at hl 1 rfl) ?_
      refine lv_aload_n hx hb dX8_blame_28 rfl (lv_at hl 2 rfl) ?_
      refine lv_iload_n hx hb dX8_blame_29 rfl (lv_at hl 3 rfl) ?_
      refine tc_vi Z.1 Z.2.2.2.1 Z.2.2.2.2.1 Z.2.2.2.2.2 S9.1 S9.2 ha1 ta1 rfl rfl (k_X1_failing_v0 l D cy S9.2 ha1 ta1 ha2 ta2 a3 (by omega) (by omega) (by omega)) (cwV 2 hts gX8_blame_X1_failing rfl rfl rfl (by decide +kernel) ⟨Nat.le_of_ble_eq_true rfl, Nat.le_of_ble_eq_true rfl⟩) rfl hl.1 rfl (Nat.le_of_ble_eq_true rfl) dX8_blame_30 ⟨Nat.zero_le _, Nat.zero_le _⟩ (fun v17 E14 H15 k16 W14 I14 G14 p14 => ?_)
      obtain ⟨q14, p14_0, p14_1, p14_2⟩ := p14
      have q14 := q14.symm
      subst q14
      have S14 : Now D TB cy (va_A (va_pl L E) sz) s L τ E9 H15 k16 := ⟨W14, I14⟩
      refine tr_puti Z.1 Z.2.2.2.1 S14.1 S14.2 ha0 ta0 rfl rfl (fun _ h => List.mem_cons_of_mem _ (List.mem_append_left _ (List.mem_append_left _ (List.mem_append_right _ h)))) tyX8_ok nmX8 2 (by decide) rfl rfl rfl (hts _ (List.mem_of_getElem? (i := 2) rfl)) dX8_blame_33 (by have := fb_rng v17; omega) (by have := fb_rng v17; omega) (fun E18 H19 k20 W18 I18 P18 => ?_)
      have S18 : Now D TB cy (va_A (va_pl L E) sz) s L τ E18 H19 k20 := ⟨W18, I18⟩
      have F18 : Fr L τ (inW [(6, 0)]) E E18 := Fr.put F9 P18 ta0 rfl
      refine lv_aload_n hx hb dX8_blame_36 rfl (lv_at hl 0 rfl) ?_
      refine lv_aload_n hx hb dX8_blame_37 rfl (lv_at hl 0 rfl) ?_
      refine tr_geti Z.1 Z.2.2.2.1 S18.1 S18.2 ha0 ta0 rfl rfl (fun _ h => List.mem_cons_of_mem _ (List.mem_append_left _ (List.mem_append_left _ (List.mem_append_right _ h)))) 2 (by decide) rfl (hts _ (List.mem_of_getElem? (i := 2) rfl)) dX8_blame_38 (fun v21 ev21 lv21 uv21 => ?_)
      have wv21 : v21 = v17 := ev21.symm.trans (fi_at P18)
      have xv21 : v21.toInt = v17.toInt := by rw [wv21]
      obtain ⟨v22, ev22, tv22⟩ : ∃ v : Int32, Int32.ofInt (-1) = v ∧ v.toInt = -1 := ⟨_, rfl, by decide +kernel⟩
      refine lv_iconst hx hb dX8_blame_41 ev22 ?_
      refine lv_icmp_ne (tgt := 49) hx hb dX8_blame_42 (by decide) (fun c23 => ?_) (fun c23 => ?_)
      · skip
        have tc23 := nu_ne c23
        refine lv_aload_n hx hb dX8_blame_49 rfl (lv_at hl 1 rfl) ?_
        refine lv_aload_n hx hb dX8_blame_50 rfl (lv_at hl 2 rfl) ?_
        refine lv_iload_n hx hb dX8_blame_51 rfl (lv_at hl 3 rfl) ?_
        refine lv_aload_n hx hb dX8_blame_52 rfl (lv_at hl 0 rfl) ?_
        refine tr_geti Z.1 Z.2.2.2.1 S18.1 S18.2 ha0 ta0 rfl rfl (fun _ h => List.mem_cons_of_mem _ (List.mem_append_left _ (List.mem_append_left _ (List.mem_append_right _ h)))) 2 (by decide) rfl (hts _ (List.mem_of_getElem? (i := 2) rfl)) dX8_blame_53 (fun v24 ev24 lv24 uv24 => ?_)
        have wv24 : v24 = v21 := ev24.symm.trans ev21
        have xv24 : v24.toInt = v21.toInt := by rw [wv24]
        refine tc_vi Z.1 Z.2.2.2.1 Z.2.2.2.2.1 Z.2.2.2.2.2 S18.1 S18.2 ha1 ta1 rfl rfl (k_X1_excess_v0 l D cy S18.2 ha1 ta1 ha2 ta2 a3 (by omega) (by omega) v24 (by omega) (by omega) (by omega) (by omega)) (cwV 3 hts gX8_blame_X1_excess rfl rfl rfl (by decide +kernel) ⟨Nat.le_of_ble_eq_true rfl, Nat.le_of_ble_eq_true rfl⟩) rfl hl.1 rfl (Nat.le_of_ble_eq_true rfl) dX8_blame_56 ⟨Nat.zero_le _, Nat.zero_le _⟩ (fun v28 E25 H26 k27 W25 I25 G25 p25 => ?_)
        have q25 := p25
        have q25 := q25.symm
        subst q25
        have S25 : Now D TB cy (va_A (va_pl L E) sz) s L τ E18 H26 k27 := ⟨W25, I25⟩
        refine tr_puti Z.1 Z.2.2.2.1 S25.1 S25.2 ha0 ta0 rfl rfl (fun _ h => List.mem_cons_of_mem _ (List.mem_append_left _ (List.mem_append_left _ (List.mem_append_right _ h)))) tyX8_ok nmX8 3 (by decide) rfl rfl rfl (hts _ (List.mem_of_getElem? (i := 3) rfl)) dX8_blame_59 (by have := fb_rng v28; omega) (by have := fb_rng v28; omega) (fun E29 H30 k31 W29 I29 P29 => ?_)
        have S29 : Now D TB cy (va_A (va_pl L E) sz) s L τ E29 H30 k31 := ⟨W29, I29⟩
        have F29 : Fr L τ (inW [(6, 0)]) E E29 := Fr.put F18 P29 ta0 rfl
        rw [← hQ]
        exact en_v Z S29 F29 trivial dX8_blame_62
      · skip
        have tc23 := nu_eq c23
        obtain ⟨v32, ev32, tv32⟩ : ∃ v : Int32, Int32.ofInt (0) = v ∧ v.toInt = 0 := ⟨_, rfl, by decide +kernel⟩
        refine lv_iconst hx hb dX8_blame_45 ev32 ?_
        refine lv_goto (tgt := 59) hx hb dX8_blame_46 (by decide) ?_
        refine tr_puti Z.1 Z.2.2.2.1 S18.1 S18.2 ha0 ta0 rfl rfl (fun _ h => List.mem_cons_of_mem _ (List.mem_append_left _ (List.mem_append_left _ (List.mem_append_right _ h)))) tyX8_ok nmX8 3 (by decide) rfl rfl rfl (hts _ (List.mem_of_getElem? (i := 3) rfl)) dX8_blame_59 (by have := fb_rng v32; omega) (by have := fb_rng v32; omega) (fun E33 H34 k35 W33 I33 P33 => ?_)
        have S33 : Now D TB cy (va_A (va_pl L E) sz) s L τ E33 H34 k35 := ⟨W33, I33⟩
        have F33 : Fr L τ (inW [(6, 0)]) E E33 := Fr.put F18 P33 ta0 rfl
        rw [← hQ]
        exact en_v Z S33 F33 trivial dX8_blame_62
    · skip
      have tc13 := nu_nlt c13
      exact J15 E9 H10 k11 ls S9 F9 (lv_sub hl [0] rfl)

set_option maxHeartbeats 4000000 in
set_option maxRecDepth 100000 in
theorem k_X8_blame_v1 (l : Launch) (D : va_G) (cy : Nat → ClassId) {L : List Nat} {τ : Nat → Ro} {E : Ec} (hI : Inv TB cy L τ E) {lw : Nat} {a0 : Nat} (ha0 : a0 ∈ L) (ta0 : τ a0 = (6, 1)) {a1 : Nat} (ha1 : a1 ∈ L) (ta1 : τ a1 = (10, lw)) {a2 : Nat} (ha2 : a2 ∈ L) (ta2 : τ a2 = (5, 1)) (a3 : Int32) (a4 : Int32) (la4 : -1 ≤ a4.toInt) (ua4 : a4.toInt ≤ 66) (hk : a4.toInt + ((lw % 2 : Nat) : Int) ≤ 66) : CtV l yX8_blame wsX8_blame { frames := 2, cells := 0, slots := 0, locals := 48 } D TB cy L τ E [.ref a0, .ref a1, .ref a2, .int a3, .int a4] (inW [(6, 1)]) (fun E' => True) := by
  intro sz
  refine sta (cc := cX8_blame) (maxL := 5) hI (by decide) rfl (Nat.le_of_ble_eq_true rfl) (fun p e s m args below meth c ls hsz Z S0 hl => ?_)
  have hx := Z.1.1
  have hb := Z.1.2.1
  have hts := Z.1.2.2.2.2
  have F0_ : Fr L τ (inW [(6, 1)]) E E := Fr.refl
  have hl : lv_has ls 5 [(0, .ref a0), (1, .ref a1), (2, .ref a2), (3, .int a3), (4, .int a4)] := hl
  generalize hQ : MQ below _ args s 0 0 _ = QQ
  have J15 : ∀  (E_15 : Ec) (H_15 : Heap) (k_15 : List Loc) (l_15 : Array Slot), Now D TB cy (va_A (va_pl L E) sz) s L τ E_15 H_15 k_15 → Fr L τ (inW [(6, 1)]) E E_15 → lv_has l_15 5 [(0, .ref a0)] → W p l e { frames := 2, cells := 0, slots := 0, locals := 48 } s m args below meth c H_15 k_15 0 0 QQ (F0 m 15 l_15 []) := by
    intro  E_15 H_15 k_15 l_15 S_15 F_15  hl_15
    refine lv_aload_n hx hb dX8_blame_15 rfl (lv_at hl_15 0 rfl) ?_
    obtain ⟨v1, ev1, tv1⟩ : ∃ v : Int32, Int32.ofInt (0) = v ∧ v.toInt = 0 := ⟨_, rfl, by decide +kernel⟩
    refine lv_iconst hx hb dX8_blame_16 ev1 ?_
    refine tr_puti Z.1 Z.2.2.2.1 S_15.1 S_15.2 ha0 ta0 rfl rfl (fun _ h => List.mem_cons_of_mem _ (List.mem_append_left _ (List.mem_append_left _ (List.mem_append_right _ h)))) tyX8_ok nmX8 2 (by decide) rfl rfl rfl (hts _ (List.mem_of_getElem? (i := 2) rfl)) dX8_blame_17 (by have := fb_rng v1; omega) (by have := fb_rng v1; omega) (fun E2 H3 k4 W2 I2 P2 => ?_)
    have S2 : Now D TB cy (va_A (va_pl L E) sz) s L τ E2 H3 k4 := ⟨W2, I2⟩
    have F2 : Fr L τ (inW [(6, 1)]) E E2 := Fr.put F_15 P2 ta0 rfl
    refine lv_aload_n hx hb dX8_blame_20 rfl (lv_at hl_15 0 rfl) ?_
    obtain ⟨v5, ev5, tv5⟩ : ∃ v : Int32, Int32.ofInt (1) = v ∧ v.toInt = 1 := ⟨_, rfl, by decide +kernel⟩
    refine lv_iconst hx hb dX8_blame_21 ev5 ?_
    refine tr_puti Z.1 Z.2.2.2.1 S2.1 S2.2 ha0 ta0 rfl rfl (fun _ h => List.mem_cons_of_mem _ (List.mem_append_left _ (List.mem_append_left _ (List.mem_append_right _ h)))) tyX8_ok nmX8 3 (by decide) rfl rfl rfl (hts _ (List.mem_of_getElem? (i := 3) rfl)) dX8_blame_22 (by have := fb_rng v5; omega) (by have := fb_rng v5; omega) (fun E6 H7 k8 W6 I6 P6 => ?_)
    have S6 : Now D TB cy (va_A (va_pl L E) sz) s L τ E6 H7 k8 := ⟨W6, I6⟩
    have F6 : Fr L τ (inW [(6, 1)]) E E6 := Fr.put F2 P6 ta0 rfl
    rw [← hQ]
    exact en_v Z S6 F6 trivial dX8_blame_25
  refine lv_aload_n hx hb dX8_blame_0 rfl (lv_at hl 0 rfl) ?_
  refine lv_iload_n hx hb dX8_blame_1 rfl (lv_at hl 3 rfl) ?_
  refine tr_puti Z.1 Z.2.2.2.1 S0.1 S0.2 ha0 ta0 rfl rfl (fun _ h => List.mem_cons_of_mem _ (List.mem_append_left _ (List.mem_append_left _ (List.mem_append_right _ h)))) tyX8_ok nmX8 1 (by decide) rfl rfl rfl (hts _ (List.mem_of_getElem? (i := 1) rfl)) dX8_blame_2 (by have := fb_rng a3; omega) (by have := fb_rng a3; omega) (fun E9 H10 k11 W9 I9 P9 => ?_)
  have S9 : Now D TB cy (va_A (va_pl L E) sz) s L τ E9 H10 k11 := ⟨W9, I9⟩
  have F9 : Fr L τ (inW [(6, 1)]) E E9 := Fr.put F0_ P9 ta0 rfl
  refine lv_iload_n hx hb dX8_blame_5 rfl (lv_at hl 3 rfl) ?_
  refine lv_if_lt (tgt := 15) hx hb dX8_blame_6 (by decide) (fun c12 => ?_) (fun c12 => ?_)
  · skip
    have tc12 := nu_lt c12
    have uc12 : (0 : Int32).toInt = 0 := rfl
    exact J15 E9 H10 k11 ls S9 F9 (lv_sub hl [0] rfl)
  · skip
    have tc12 := nu_nlt c12
    have uc12 : (0 : Int32).toInt = 0 := rfl
    refine lv_iload_n hx hb dX8_blame_9 rfl (lv_at hl 3 rfl) ?_
    refine lv_iload hx hb dX8_blame_10 (lv_at hl 4 rfl) ?_
    refine lv_icmp_lt (tgt := 26) hx hb dX8_blame_12 (by decide) (fun c13 => ?_) (fun c13 => ?_)
    · skip
      have tc13 := nu_lt c13
      refine lv_aload_n hx hb dX8_blame_26 rfl (lv_at hl 0 rfl) ?_
      refine lv_aload_n hx hb dX8_blame_27 rfl (lv_at hl 1 rfl) ?_
      refine lv_aload_n hx hb dX8_blame_28 rfl (lv_at hl 2 rfl) ?_
      refine lv_iload_n hx hb dX8_blame_29 rfl (lv_at hl 3 rfl) ?_
      refine tc_vi Z.1 Z.2.2.2.1 Z.2.2.2.2.1 Z.2.2.2.2.2 S9.1 S9.2 ha1 ta1 rfl rfl (k_X1_failing_v1 l D cy S9.2 ha1 ta1 ha2 ta2 a3 (by omega) (by omega) (by omega)) (cwV 2 hts gX8_blame_X1_failing rfl rfl rfl (by decide +kernel) ⟨Nat.le_of_ble_eq_true rfl, Nat.le_of_ble_eq_true rfl⟩) rfl hl.1 rfl (Nat.le_of_ble_eq_true rfl) dX8_blame_30 ⟨Nat.zero_le _, Nat.zero_le _⟩ (fun v17 E14 H15 k16 W14 I14 G14 p14 => ?_)
      obtain ⟨q14, p14_0, p14_1, p14_2⟩ := p14
      have q14 := q14.symm
      subst q14
      have S14 : Now D TB cy (va_A (va_pl L E) sz) s L τ E9 H15 k16 := ⟨W14, I14⟩
      refine tr_puti Z.1 Z.2.2.2.1 S14.1 S14.2 ha0 ta0 rfl rfl (fun _ h => List.mem_cons_of_mem _ (List.mem_append_left _ (List.mem_append_left _ (List.mem_append_right _ h)))) tyX8_ok nmX8 2 (by decide) rfl rfl rfl (hts _ (List.mem_of_getElem? (i := 2) rfl)) dX8_blame_33 (by have := fb_rng v17; omega) (by have := fb_rng v17; omega) (fun E18 H19 k20 W18 I18 P18 => ?_)
      have S18 : Now D TB cy (va_A (va_pl L E) sz) s L τ E18 H19 k20 := ⟨W18, I18⟩
      have F18 : Fr L τ (inW [(6, 1)]) E E18 := Fr.put F9 P18 ta0 rfl
      refine lv_aload_n hx hb dX8_blame_36 rfl (lv_at hl 0 rfl) ?_
      refine lv_aload_n hx hb dX8_blame_37 rfl (lv_at hl 0 rfl) ?_
      refine tr_geti Z.1 Z.2.2.2.1 S18.1 S18.2 ha0 ta0 rfl rfl (fun _ h => List.mem_cons_of_mem _ (List.mem_append_left _ (List.mem_append_left _ (List.mem_append_right _ h)))) 2 (by decide) rfl (hts _ (List.mem_of_getElem? (i := 2) rfl)) dX8_blame_38 (fun v21 ev21 lv21 uv21 => ?_)
      have wv21 : v21 = v17 := ev21.symm.trans (fi_at P18)
      have xv21 : v21.toInt = v17.toInt := by rw [wv21]
      obtain ⟨v22, ev22, tv22⟩ : ∃ v : Int32, Int32.ofInt (-1) = v ∧ v.toInt = -1 := ⟨_, rfl, by decide +kernel⟩
      refine lv_iconst hx hb dX8_blame_41 ev22 ?_
      refine lv_icmp_ne (tgt := 49) hx hb dX8_blame_42 (by decide) (fun c23 => ?_) (fun c23 => ?_)
      · skip
        have tc23 := nu_ne c23
        refine lv_aload_n hx hb dX8_blame_49 rfl (lv_at hl 1 rfl) ?_
        refine lv_aload_n hx hb dX8_blame_50 rfl (lv_at hl 2 rfl) ?_
        refine lv_iload_n hx hb dX8_blame_51 rfl (lv_at hl 3 rfl) ?_
        refine lv_aload_n hx hb dX8_blame_52 rfl (lv_at hl 0 rfl) ?_
        refine tr_geti Z.1 Z.2.2.2.1 S18.1 S18.2 ha0 ta0 rfl rfl (fun _ h => List.mem_cons_of_mem _ (List.mem_append_left _ (List.mem_append_left _ (List.mem_append_right _ h)))) 2 (by decide) rfl (hts _ (List.mem_of_getElem? (i := 2) rfl)) dX8_blame_53 (fun v24 ev24 lv24 uv24 => ?_)
        have wv24 : v24 = v21 := ev24.symm.trans ev21
        have xv24 : v24.toInt = v21.toInt := by rw [wv24]
        refine tc_vi Z.1 Z.2.2.2.1 Z.2.2.2.2.1 Z.2.2.2.2.2 S18.1 S18.2 ha1 ta1 rfl rfl (k_X1_excess_v1 l D cy S18.2 ha1 ta1 ha2 ta2 a3 (by omega) (by omega) v24 (by omega) (by omega) (by omega) (by omega)) (cwV 3 hts gX8_blame_X1_excess rfl rfl rfl (by decide +kernel) ⟨Nat.le_of_ble_eq_true rfl, Nat.le_of_ble_eq_true rfl⟩) rfl hl.1 rfl (Nat.le_of_ble_eq_true rfl) dX8_blame_56 ⟨Nat.zero_le _, Nat.zero_le _⟩ (fun v28 E25 H26 k27 W25 I25 G25 p25 => ?_)
        have q25 := p25
        have q25 := q25.symm
        subst q25
        have S25 : Now D TB cy (va_A (va_pl L E) sz) s L τ E18 H26 k27 := ⟨W25, I25⟩
        refine tr_puti Z.1 Z.2.2.2.1 S25.1 S25.2 ha0 ta0 rfl rfl (fun _ h => List.mem_cons_of_mem _ (List.mem_append_left _ (List.mem_append_left _ (List.mem_append_right _ h)))) tyX8_ok nmX8 3 (by decide) rfl rfl rfl (hts _ (List.mem_of_getElem? (i := 3) rfl)) dX8_blame_59 (by have := fb_rng v28; omega) (by have := fb_rng v28; omega) (fun E29 H30 k31 W29 I29 P29 => ?_)
        have S29 : Now D TB cy (va_A (va_pl L E) sz) s L τ E29 H30 k31 := ⟨W29, I29⟩
        have F29 : Fr L τ (inW [(6, 1)]) E E29 := Fr.put F18 P29 ta0 rfl
        rw [← hQ]
        exact en_v Z S29 F29 trivial dX8_blame_62
      · skip
        have tc23 := nu_eq c23
        obtain ⟨v32, ev32, tv32⟩ : ∃ v : Int32, Int32.ofInt (0) = v ∧ v.toInt = 0 := ⟨_, rfl, by decide +kernel⟩
        refine lv_iconst hx hb dX8_blame_45 ev32 ?_
        refine lv_goto (tgt := 59) hx hb dX8_blame_46 (by decide) ?_
        refine tr_puti Z.1 Z.2.2.2.1 S18.1 S18.2 ha0 ta0 rfl rfl (fun _ h => List.mem_cons_of_mem _ (List.mem_append_left _ (List.mem_append_left _ (List.mem_append_right _ h)))) tyX8_ok nmX8 3 (by decide) rfl rfl rfl (hts _ (List.mem_of_getElem? (i := 3) rfl)) dX8_blame_59 (by have := fb_rng v32; omega) (by have := fb_rng v32; omega) (fun E33 H34 k35 W33 I33 P33 => ?_)
        have S33 : Now D TB cy (va_A (va_pl L E) sz) s L τ E33 H34 k35 := ⟨W33, I33⟩
        have F33 : Fr L τ (inW [(6, 1)]) E E33 := Fr.put F18 P33 ta0 rfl
        rw [← hQ]
        exact en_v Z S33 F33 trivial dX8_blame_62
    · skip
      have tc13 := nu_nlt c13
      exact J15 E9 H10 k11 ls S9 F9 (lv_sub hl [0] rfl)

set_option maxRecDepth 20000 in
theorem ggX8_judge_X1_asked : GoodIn wsX8_judge wsX1_asked := goodIn_r _ [11, 12, 37, 38, 39, 40, 41, 42] (by decide +kernel) (by decide +kernel)
set_option maxRecDepth 20000 in
theorem gX8_judge_X1_asked : GoodIn wsX8_judge (wsV RX8 43 RX1 yX1_asked wsX1_asked) := goodIn_app (goodIn_of _ (by decide +kernel)) ggX8_judge_X1_asked
set_option maxRecDepth 20000 in
theorem ggX8_judge_X1_failing : GoodIn wsX8_judge wsX1_failing := goodIn_r _ [16, 17, 18, 19, 20, 10, 21, 22, 23, 24, 25, 37, 38, 39, 40, 41, 42, 32, 33, 34, 35, 36] (by decide +kernel) (by decide +kernel)
set_option maxRecDepth 20000 in
theorem gX8_judge_X1_failing : GoodIn wsX8_judge (wsV RX8 52 RX1 yX1_failing wsX1_failing) := goodIn_app (goodIn_of _ (by decide +kernel)) ggX8_judge_X1_failing
set_option maxRecDepth 20000 in
theorem ggX8_judge_X8_blame : GoodIn wsX8_judge wsX8_blame := goodIn_r _ [30, 4, 5, 6, 13, 14, 15, 10, 16, 17, 18, 19, 20, 21, 22, 23, 24, 25, 31, 43, 44, 45, 46, 37, 38, 39, 40, 41, 42, 32, 33, 34, 35, 36] (by decide +kernel) (by decide +kernel)
set_option maxRecDepth 20000 in
theorem gX8_judge_X8_blame : GoodIn wsX8_judge (wsV RX8 56 RX8 yX8_blame wsX8_blame) := goodIn_app (goodIn_of _ (by decide +kernel)) ggX8_judge_X8_blame
theorem dX8_judge_0 : decode cX8_judge 0 = .ok (.aload_n 1, 1) := by decide +kernel
theorem dX8_judge_1 : decode cX8_judge 1 = .ok (.aload_n 2, 1) := by decide +kernel
theorem dX8_judge_2 : decode cX8_judge 2 = .ok (.getfield 38, 3) := by decide +kernel
theorem dX8_judge_5 : decode cX8_judge 5 = .ok (.invokevirtual 43, 3) := by decide +kernel
theorem dX8_judge_8 : decode cX8_judge 8 = .ok (.istore_n 3, 1) := by decide +kernel
theorem dX8_judge_9 : decode cX8_judge 9 = .ok (.aload_n 0, 1) := by decide +kernel
theorem dX8_judge_10 : decode cX8_judge 10 = .ok (.aload_n 1, 1) := by decide +kernel
theorem dX8_judge_11 : decode cX8_judge 11 = .ok (.getfield 49, 3) := by decide +kernel
theorem dX8_judge_14 : decode cX8_judge 14 = .ok (.putfield 9, 3) := by decide +kernel
theorem dX8_judge_17 : decode cX8_judge 17 = .ok (.iconst (-1), 1) := by decide +kernel
theorem dX8_judge_18 : decode cX8_judge 18 = .ok (.istore 4, 2) := by decide +kernel
theorem dX8_judge_20 : decode cX8_judge 20 = .ok (.iconst 0, 1) := by decide +kernel
theorem dX8_judge_21 : decode cX8_judge 21 = .ok (.istore 5, 2) := by decide +kernel
theorem dX8_judge_23 : decode cX8_judge 23 = .ok (.iload 5, 2) := by decide +kernel
theorem dX8_judge_25 : decode cX8_judge 25 = .ok (.iload_n 3, 1) := by decide +kernel
theorem dX8_judge_26 : decode cX8_judge 26 = .ok (.if_icmp .ge 44, 3) := by decide +kernel
theorem dX8_judge_29 : decode cX8_judge 29 = .ok (.aload_n 0, 1) := by decide +kernel
theorem dX8_judge_30 : decode cX8_judge 30 = .ok (.getfield 9, 3) := by decide +kernel
theorem dX8_judge_33 : decode cX8_judge 33 = .ok (.aload_n 1, 1) := by decide +kernel
theorem dX8_judge_34 : decode cX8_judge 34 = .ok (.getfield 49, 3) := by decide +kernel
theorem dX8_judge_37 : decode cX8_judge 37 = .ok (.if_icmp .ne 33, 3) := by decide +kernel
theorem dX8_judge_40 : decode cX8_judge 40 = .ok (.aload_n 0, 1) := by decide +kernel
theorem dX8_judge_41 : decode cX8_judge 41 = .ok (.aload_n 1, 1) := by decide +kernel
theorem dX8_judge_42 : decode cX8_judge 42 = .ok (.aload_n 2, 1) := by decide +kernel
theorem dX8_judge_43 : decode cX8_judge 43 = .ok (.iload 5, 2) := by decide +kernel
theorem dX8_judge_45 : decode cX8_judge 45 = .ok (.invokevirtual 52, 3) := by decide +kernel
theorem dX8_judge_48 : decode cX8_judge 48 = .ok (.iconst (-1), 1) := by decide +kernel
theorem dX8_judge_49 : decode cX8_judge 49 = .ok (.if_icmp .eq 7, 3) := by decide +kernel
theorem dX8_judge_52 : decode cX8_judge 52 = .ok (.iconst 1, 1) := by decide +kernel
theorem dX8_judge_53 : decode cX8_judge 53 = .ok (.goto 4, 3) := by decide +kernel
theorem dX8_judge_56 : decode cX8_judge 56 = .ok (.iconst 0, 1) := by decide +kernel
theorem dX8_judge_57 : decode cX8_judge 57 = .ok (.putfield 9, 3) := by decide +kernel
theorem dX8_judge_60 : decode cX8_judge 60 = .ok (.iload 5, 2) := by decide +kernel
theorem dX8_judge_62 : decode cX8_judge 62 = .ok (.istore 4, 2) := by decide +kernel
theorem dX8_judge_64 : decode cX8_judge 64 = .ok (.iinc 5 1, 3) := by decide +kernel
theorem dX8_judge_67 : decode cX8_judge 67 = .ok (.goto (-44), 3) := by decide +kernel
theorem dX8_judge_70 : decode cX8_judge 70 = .ok (.aload_n 0, 1) := by decide +kernel
theorem dX8_judge_71 : decode cX8_judge 71 = .ok (.iconst (-1), 1) := by decide +kernel
theorem dX8_judge_72 : decode cX8_judge 72 = .ok (.putfield 15, 3) := by decide +kernel
theorem dX8_judge_75 : decode cX8_judge 75 = .ok (.aload_n 0, 1) := by decide +kernel
theorem dX8_judge_76 : decode cX8_judge 76 = .ok (.iconst (-1), 1) := by decide +kernel
theorem dX8_judge_77 : decode cX8_judge 77 = .ok (.putfield 19, 3) := by decide +kernel
theorem dX8_judge_80 : decode cX8_judge 80 = .ok (.aload_n 0, 1) := by decide +kernel
theorem dX8_judge_81 : decode cX8_judge 81 = .ok (.iconst 0, 1) := by decide +kernel
theorem dX8_judge_82 : decode cX8_judge 82 = .ok (.putfield 22, 3) := by decide +kernel
theorem dX8_judge_85 : decode cX8_judge 85 = .ok (.aload_n 0, 1) := by decide +kernel
theorem dX8_judge_86 : decode cX8_judge 86 = .ok (.getfield 9, 3) := by decide +kernel
theorem dX8_judge_89 : decode cX8_judge 89 = .ok (.ifCond .eq 23, 3) := by decide +kernel
theorem dX8_judge_92 : decode cX8_judge 92 = .ok (.aload_n 0, 1) := by decide +kernel
theorem dX8_judge_93 : decode cX8_judge 93 = .ok (.aload_n 1, 1) := by decide +kernel
theorem dX8_judge_94 : decode cX8_judge 94 = .ok (.aload_n 2, 1) := by decide +kernel
theorem dX8_judge_95 : decode cX8_judge 95 = .ok (.aload_n 1, 1) := by decide +kernel
theorem dX8_judge_96 : decode cX8_judge 96 = .ok (.getfield 49, 3) := by decide +kernel
theorem dX8_judge_99 : decode cX8_judge 99 = .ok (.ifCond .eq 7, 3) := by decide +kernel
theorem dX8_judge_102 : decode cX8_judge 102 = .ok (.iconst 0, 1) := by decide +kernel
theorem dX8_judge_103 : decode cX8_judge 103 = .ok (.goto 5, 3) := by decide +kernel
theorem dX8_judge_106 : decode cX8_judge 106 = .ok (.iload 4, 2) := by decide +kernel
theorem dX8_judge_108 : decode cX8_judge 108 = .ok (.iload_n 3, 1) := by decide +kernel
theorem dX8_judge_109 : decode cX8_judge 109 = .ok (.invokevirtual 56, 3) := by decide +kernel
theorem dX8_judge_112 : decode cX8_judge 112 = .ok (.return_, 1) := by decide +kernel
set_option maxHeartbeats 4000000 in
set_option maxRecDepth 100000 in
theorem k_X8_judge_v0 (l : Launch) (D : va_G) (cy : Nat → ClassId) {L : List Nat} {τ : Nat → Ro} {E : Ec} (hI : Inv TB cy L τ E) {lw : Nat} {a0 : Nat} (ha0 : a0 ∈ L) (ta0 : τ a0 = (6, 0)) {a1 : Nat} (ha1 : a1 ∈ L) (ta1 : τ a1 = (10, lw)) {a2 : Nat} (ha2 : a2 ∈ L) (ta2 : τ a2 = (5, 0)) : CtV l yX8_judge wsX8_judge { frames := 3, cells := 0, slots := 0, locals := 72 } D TB cy L τ E [.ref a0, .ref a1, .ref a2] (inW [(6, 0)]) (fun E' => True) := by
  intro sz
  refine sta (cc := cX8_judge) (maxL := 6) hI (by decide) rfl (Nat.le_of_ble_eq_true rfl) (fun p e s m args below meth c ls hsz Z S0 hl => ?_)
  have hx := Z.1.1
  have hb := Z.1.2.1
  have hts := Z.1.2.2.2.2
  have F0_ : Fr L τ (inW [(6, 0)]) E E := Fr.refl
  have hl : lv_has ls 6 [(0, .ref a0), (1, .ref a1), (2, .ref a2)] := hl
  generalize hQ : MQ below _ args s 0 0 _ = QQ
  have J108 : ∀ (x3_108 : Int32) (y0_108 : Nat) (y1_108 : Nat) (y2_108 : Nat) (y3_108 : Int32) (E_108 : Ec) (H_108 : Heap) (k_108 : List Loc) (l_108 : Array Slot), Now D TB cy (va_A (va_pl L E) sz) s L τ E_108 H_108 k_108 → Fr L τ (inW [(6, 0)]) E E_108 → (-1 ≤ x3_108.toInt) → (x3_108.toInt ≤ 66) → (y0_108 ∈ L) → (τ y0_108 = (6, 0)) → (y1_108 ∈ L) → (τ y1_108 = (10, lw)) → (y2_108 ∈ L) → (τ y2_108 = (5, 0)) → (-1 ≤ y3_108.toInt) → (y3_108.toInt ≤ 65) → (x3_108.toInt + ((lw % 2 : Nat) : Int) ≤ 66) → lv_has l_108 6 [(3, .int x3_108)] → W p l e { frames := 3, cells := 0, slots := 0, locals := 72 } s m args below meth c H_108 k_108 0 0 QQ (F0 m 108 l_108 [.int y3_108, .ref y2_108, .ref y1_108, .ref y0_108]) := by
    intro x3_108 y0_108 y1_108 y2_108 y3_108 E_108 H_108 k_108 l_108 S_108 F_108 z1 z2 z3 z4 z5 z6 z7 z8 z9 z10 z11 hl_108
    refine lv_iload_n hx hb dX8_judge_108 rfl (lv_at hl_108 0 rfl) ?_
    refine tc_vv Z.1 Z.2.2.2.1 Z.2.2.2.2.1 Z.2.2.2.2.2 S_108.1 S_108.2 z3 z4 rfl rfl (k_X8_blame_v0 l D cy S_108.2 z3 z4 z5 z6 z7 z8 y3_108 x3_108 (by omega) (by omega) (by omega)) (cwV 4 hts gX8_judge_X8_blame rfl rfl rfl (by decide +kernel) ⟨Nat.le_of_ble_eq_true rfl, Nat.le_of_ble_eq_true rfl⟩) rfl hl_108.1 rfl (Nat.le_of_ble_eq_true rfl) dX8_judge_109 ⟨Nat.zero_le _, Nat.zero_le _⟩ (fun E12 H13 k14 W12 I12 G12 p12 => ?_)
    have S12 : Now D TB cy (va_A (va_pl L E) sz) s L τ E12 H13 k14 := ⟨W12, I12⟩
    have F12 : Fr L τ (inW [(6, 0)]) E E12 := F_108.trans (G12.mono (inW_mono (by decide)))
    rw [← hQ]
    exact en_v Z S12 F12 trivial dX8_judge_112
  have J70 : ∀ (x3_70 : Int32) (x4_70 : Int32) (E_70 : Ec) (H_70 : Heap) (k_70 : List Loc) (l_70 : Array Slot), Now D TB cy (va_A (va_pl L E) sz) s L τ E_70 H_70 k_70 → Fr L τ (inW [(6, 0)]) E E_70 → (-1 ≤ x3_70.toInt) → (x3_70.toInt ≤ 66) → (-1 ≤ x4_70.toInt) → (x4_70.toInt ≤ 65) → (x3_70.toInt + ((lw % 2 : Nat) : Int) ≤ 66) → lv_has l_70 6 [(0, .ref a0), (1, .ref a1), (2, .ref a2), (3, .int x3_70), (4, .int x4_70)] → W p l e { frames := 3, cells := 0, slots := 0, locals := 72 } s m args below meth c H_70 k_70 0 0 QQ (F0 m 70 l_70 []) := by
    intro x3_70 x4_70 E_70 H_70 k_70 l_70 S_70 F_70 z16 z17 z18 z19 z20 hl_70
    refine lv_aload_n hx hb dX8_judge_70 rfl (lv_at hl_70 0 rfl) ?_
    obtain ⟨v21, ev21, tv21⟩ : ∃ v : Int32, Int32.ofInt (-1) = v ∧ v.toInt = -1 := ⟨_, rfl, by decide +kernel⟩
    refine lv_iconst hx hb dX8_judge_71 ev21 ?_
    refine tr_puti Z.1 Z.2.2.2.1 S_70.1 S_70.2 ha0 ta0 rfl rfl (fun _ h => List.mem_cons_of_mem _ (List.mem_append_right _ h)) tyX8_ok nmX8 1 (by decide) rfl rfl rfl (hts _ (List.mem_of_getElem? (i := 4) rfl)) dX8_judge_72 (by have := fb_rng v21; omega) (by have := fb_rng v21; omega) (fun E22 H23 k24 W22 I22 P22 => ?_)
    have S22 : Now D TB cy (va_A (va_pl L E) sz) s L τ E22 H23 k24 := ⟨W22, I22⟩
    have F22 : Fr L τ (inW [(6, 0)]) E E22 := Fr.put F_70 P22 ta0 rfl
    refine lv_aload_n hx hb dX8_judge_75 rfl (lv_at hl_70 0 rfl) ?_
    obtain ⟨v25, ev25, tv25⟩ : ∃ v : Int32, Int32.ofInt (-1) = v ∧ v.toInt = -1 := ⟨_, rfl, by decide +kernel⟩
    refine lv_iconst hx hb dX8_judge_76 ev25 ?_
    refine tr_puti Z.1 Z.2.2.2.1 S22.1 S22.2 ha0 ta0 rfl rfl (fun _ h => List.mem_cons_of_mem _ (List.mem_append_right _ h)) tyX8_ok nmX8 2 (by decide) rfl rfl rfl (hts _ (List.mem_of_getElem? (i := 5) rfl)) dX8_judge_77 (by have := fb_rng v25; omega) (by have := fb_rng v25; omega) (fun E26 H27 k28 W26 I26 P26 => ?_)
    have S26 : Now D TB cy (va_A (va_pl L E) sz) s L τ E26 H27 k28 := ⟨W26, I26⟩
    have F26 : Fr L τ (inW [(6, 0)]) E E26 := Fr.put F22 P26 ta0 rfl
    refine lv_aload_n hx hb dX8_judge_80 rfl (lv_at hl_70 0 rfl) ?_
    obtain ⟨v29, ev29, tv29⟩ : ∃ v : Int32, Int32.ofInt (0) = v ∧ v.toInt = 0 := ⟨_, rfl, by decide +kernel⟩
    refine lv_iconst hx hb dX8_judge_81 ev29 ?_
    refine tr_puti Z.1 Z.2.2.2.1 S26.1 S26.2 ha0 ta0 rfl rfl (fun _ h => List.mem_cons_of_mem _ (List.mem_append_right _ h)) tyX8_ok nmX8 3 (by decide) rfl rfl rfl (hts _ (List.mem_of_getElem? (i := 6) rfl)) dX8_judge_82 (by have := fb_rng v29; omega) (by have := fb_rng v29; omega) (fun E30 H31 k32 W30 I30 P30 => ?_)
    have S30 : Now D TB cy (va_A (va_pl L E) sz) s L τ E30 H31 k32 := ⟨W30, I30⟩
    have F30 : Fr L τ (inW [(6, 0)]) E E30 := Fr.put F26 P30 ta0 rfl
    refine lv_aload_n hx hb dX8_judge_85 rfl (lv_at hl_70 0 rfl) ?_
    refine tr_geti Z.1 Z.2.2.2.1 S30.1 S30.2 ha0 ta0 rfl rfl (fun _ h => List.mem_cons_of_mem _ (List.mem_append_right _ h)) 0 (by decide) rfl (hts _ (List.mem_of_getElem? (i := 3) rfl)) dX8_judge_86 (fun v33 ev33 lv33 uv33 => ?_)
    refine lv_if_eq (tgt := 112) hx hb dX8_judge_89 (by decide) (fun c34 => ?_) (fun c34 => ?_)
    · skip
      have tc34 := nu_eq c34
      have uc34 : (0 : Int32).toInt = 0 := rfl
      rw [← hQ]
      exact en_v Z S30 F30 trivial dX8_judge_112
    · skip
      have tc34 := nu_ne c34
      have uc34 : (0 : Int32).toInt = 0 := rfl
      refine lv_aload_n hx hb dX8_judge_92 rfl (lv_at hl_70 0 rfl) ?_
      refine lv_aload_n hx hb dX8_judge_93 rfl (lv_at hl_70 1 rfl) ?_
      refine lv_aload_n hx hb dX8_judge_94 rfl (lv_at hl_70 2 rfl) ?_
      refine lv_aload_n hx hb dX8_judge_95 rfl (lv_at hl_70 1 rfl) ?_
      refine tr_geti Z.1 Z.2.2.2.1 S30.1 S30.2 ha1 ta1 rfl rfl (fun _ h => List.mem_cons_of_mem _ (List.mem_append_left _ (List.mem_append_right _ h))) 0 (by decide) rfl (hts _ (List.mem_of_getElem? (i := 2) rfl)) dX8_judge_96 (fun v35 ev35 lv35 uv35 => ?_)
      refine lv_if_eq (tgt := 106) hx hb dX8_judge_99 (by decide) (fun c36 => ?_) (fun c36 => ?_)
      · skip
        have tc36 := nu_eq c36
        have uc36 : (0 : Int32).toInt = 0 := rfl
        refine lv_iload hx hb dX8_judge_106 (lv_at hl_70 4 rfl) ?_
        exact J108 x3_70 a0 a1 a2 x4_70 E30 H31 k32 l_70 S30 F30 (by omega) (by omega) ha0 ta0 ha1 ta1 ha2 ta2 (by omega) (by omega) (by omega) (lv_sub hl_70 [3] rfl)
      · skip
        have tc36 := nu_ne c36
        have uc36 : (0 : Int32).toInt = 0 := rfl
        obtain ⟨v37, ev37, tv37⟩ : ∃ v : Int32, Int32.ofInt (0) = v ∧ v.toInt = 0 := ⟨_, rfl, by decide +kernel⟩
        refine lv_iconst hx hb dX8_judge_102 ev37 ?_
        refine lv_goto (tgt := 108) hx hb dX8_judge_103 (by decide) ?_
        exact J108 x3_70 a0 a1 a2 v37 E30 H31 k32 l_70 S30 F30 (by omega) (by omega) ha0 ta0 ha1 ta1 ha2 ta2 (by omega) (by omega) (by omega) (lv_sub hl_70 [3] rfl)
  have J23 : ∀ (n : Nat) (x3_23 : Int32) (x4_23 : Int32) (x5_23 : Int32) (E_23 : Ec) (H_23 : Heap) (k_23 : List Loc) (l_23 : Array Slot), Now D TB cy (va_A (va_pl L E) sz) s L τ E_23 H_23 k_23 → Fr L τ (inW [(6, 0)]) E E_23 → (-1 ≤ x3_23.toInt) → (x3_23.toInt ≤ 66) → (-1 ≤ x4_23.toInt) → (x4_23.toInt ≤ 65) → (0 ≤ x5_23.toInt) → (x5_23.toInt ≤ 66) → (x3_23.toInt + ((lw % 2 : Nat) : Int) ≤ 66) → (66 - x5_23.toInt).toNat < n → lv_has l_23 6 [(0, .ref a0), (1, .ref a1), (2, .ref a2), (3, .int x3_23), (4, .int x4_23), (5, .int x5_23)] → W p l e { frames := 3, cells := 0, slots := 0, locals := 72 } s m args below meth c H_23 k_23 0 0 QQ (F0 m 23 l_23 []) := by
    intro n
    induction n with
    | zero => intro x3_23 x4_23 x5_23 E_23 H_23 k_23 l_23 S_23 F_23 z38 z39 z40 z41 z42 z43 z44 hm hl_23; exact absurd hm (Nat.not_lt_zero _)
    | succ n ih =>
      intro x3_23 x4_23 x5_23 E_23 H_23 k_23 l_23 S_23 F_23 z38 z39 z40 z41 z42 z43 z44 hm hl_23
      have ih_23 := ih
      have J57 : ∀ (y0_57 : Nat) (y1_57 : Int32) (E_57 : Ec) (H_57 : Heap) (k_57 : List Loc) (l_57 : Array Slot), Now D TB cy (va_A (va_pl L E) sz) s L τ E_57 H_57 k_57 → Fr L τ (inW [(6, 0)]) E E_57 → (1 ≤ x3_23.toInt) → (x3_23.toInt ≤ 66) → (0 ≤ x5_23.toInt) → (x5_23.toInt ≤ 65) → (y0_57 ∈ L) → (τ y0_57 = (6, 0)) → (0 ≤ y1_57.toInt) → (y1_57.toInt ≤ 1) → (x3_23.toInt + ((lw % 2 : Nat) : Int) ≤ 66) → lv_has l_57 6 [(0, .ref a0), (1, .ref a1), (2, .ref a2), (3, .int x3_23), (5, .int x5_23)] → W p l e { frames := 3, cells := 0, slots := 0, locals := 72 } s m args below meth c H_57 k_57 0 0 QQ (F0 m 57 l_57 [.int y1_57, .ref y0_57]) := by
        intro y0_57 y1_57 E_57 H_57 k_57 l_57 S_57 F_57 z45 z46 z47 z48 z49 z50 z51 z52 z53 hl_57
        refine tr_putz Z.1 Z.2.2.2.1 S_57.1 S_57.2 z49 z50 rfl rfl (fun _ h => List.mem_cons_of_mem _ (List.mem_append_right _ h)) tyX8_ok nmX8 0 (by decide) rfl rfl rfl (hts _ (List.mem_of_getElem? (i := 3) rfl)) dX8_judge_57 (by omega) (by omega) (fun E54 H55 k56 W54 I54 P54 => ?_)
        have S54 : Now D TB cy (va_A (va_pl L E) sz) s L τ E54 H55 k56 := ⟨W54, I54⟩
        have F54 : Fr L τ (inW [(6, 0)]) E E54 := Fr.put F_57 P54 z50 rfl
        refine lv_iload hx hb dX8_judge_60 (lv_at hl_57 4 rfl) ?_
        refine lv_istore (lv' := [(4, .int x5_23), (0, .ref a0), (1, .ref a1), (2, .ref a2), (3, .int x3_23), (5, .int x5_23)]) hx hb dX8_judge_62 hl_57 (by decide) rfl (fun l57 hl58 => ?_)
        obtain ⟨v59, ev59⟩ : ∃ y : Int32, x5_23 + Int32.ofInt (1) = y := ⟨_, rfl⟩
        have tv59 : v59.toInt = x5_23.toInt + (1) := by rw [← ev59]; exact (fb_addI (by rw [show (Int32.ofInt (1)).toInt = 1 from by decide +kernel]; omega) (by rw [show (Int32.ofInt (1)).toInt = 1 from by decide +kernel]; omega)).trans (by rw [show (Int32.ofInt (1)).toInt = 1 from by decide +kernel])
        refine lv_iinc (v := v59) (lv' := [(5, .int v59), (4, .int x5_23), (0, .ref a0), (1, .ref a1), (2, .ref a2), (3, .int x3_23)]) hx hb dX8_judge_64 hl58 (k := 5) rfl ev59 (by decide) rfl (fun l60 hl61 => ?_)
        refine lv_goto (tgt := 23) hx hb dX8_judge_67 (by decide) ?_
        exact ih_23 x3_23 x5_23 v59 E54 H55 k56 l60 S54 F54 (by omega) (by omega) (by omega) (by omega) (by omega) (by omega) (by omega) (by omega) (lv_sub hl61 [2, 3, 4, 5, 1, 0] rfl)
      refine lv_iload hx hb dX8_judge_23 (lv_at hl_23 5 rfl) ?_
      refine lv_iload_n hx hb dX8_judge_25 rfl (lv_at hl_23 3 rfl) ?_
      refine lv_icmp_ge (tgt := 70) hx hb dX8_judge_26 (by decide) (fun c62 => ?_) (fun c62 => ?_)
      · skip
        have tc62 := nu_le c62
        exact J70 x3_23 x4_23 E_23 H_23 k_23 l_23 S_23 F_23 (by omega) (by omega) (by omega) (by omega) (by omega) (lv_sub hl_23 [0, 1, 2, 3, 4] rfl)
      · skip
        have tc62 := nu_nle c62
        refine lv_aload_n hx hb dX8_judge_29 rfl (lv_at hl_23 0 rfl) ?_
        refine tr_geti Z.1 Z.2.2.2.1 S_23.1 S_23.2 ha0 ta0 rfl rfl (fun _ h => List.mem_cons_of_mem _ (List.mem_append_right _ h)) 0 (by decide) rfl (hts _ (List.mem_of_getElem? (i := 3) rfl)) dX8_judge_30 (fun v63 ev63 lv63 uv63 => ?_)
        refine lv_aload_n hx hb dX8_judge_33 rfl (lv_at hl_23 1 rfl) ?_
        refine tr_geti Z.1 Z.2.2.2.1 S_23.1 S_23.2 ha1 ta1 rfl rfl (fun _ h => List.mem_cons_of_mem _ (List.mem_append_left _ (List.mem_append_right _ h))) 0 (by decide) rfl (hts _ (List.mem_of_getElem? (i := 2) rfl)) dX8_judge_34 (fun v64 ev64 lv64 uv64 => ?_)
        refine lv_icmp_ne (tgt := 70) hx hb dX8_judge_37 (by decide) (fun c65 => ?_) (fun c65 => ?_)
        · skip
          have tc65 := nu_ne c65
          exact J70 x3_23 x4_23 E_23 H_23 k_23 l_23 S_23 F_23 (by omega) (by omega) (by omega) (by omega) (by omega) (lv_sub hl_23 [0, 1, 2, 3, 4] rfl)
        · skip
          have tc65 := nu_eq c65
          refine lv_aload_n hx hb dX8_judge_40 rfl (lv_at hl_23 0 rfl) ?_
          refine lv_aload_n hx hb dX8_judge_41 rfl (lv_at hl_23 1 rfl) ?_
          refine lv_aload_n hx hb dX8_judge_42 rfl (lv_at hl_23 2 rfl) ?_
          refine lv_iload hx hb dX8_judge_43 (lv_at hl_23 5 rfl) ?_
          refine tc_vi Z.1 Z.2.2.2.1 Z.2.2.2.2.1 Z.2.2.2.2.2 S_23.1 S_23.2 ha1 ta1 rfl rfl (k_X1_failing_v0 l D cy S_23.2 ha1 ta1 ha2 ta2 x5_23 (by omega) (by omega) (by omega)) (cwV 2 hts gX8_judge_X1_failing rfl rfl rfl (by decide +kernel) ⟨Nat.le_of_ble_eq_true rfl, Nat.le_of_ble_eq_true rfl⟩) rfl hl_23.1 rfl (Nat.le_of_ble_eq_true rfl) dX8_judge_45 ⟨Nat.zero_le _, Nat.zero_le _⟩ (fun v69 E66 H67 k68 W66 I66 G66 p66 => ?_)
          obtain ⟨q66, p66_0, p66_1, p66_2⟩ := p66
          have q66 := q66.symm
          subst q66
          have S66 : Now D TB cy (va_A (va_pl L E) sz) s L τ E_23 H67 k68 := ⟨W66, I66⟩
          obtain ⟨v70, ev70, tv70⟩ : ∃ v : Int32, Int32.ofInt (-1) = v ∧ v.toInt = -1 := ⟨_, rfl, by decide +kernel⟩
          refine lv_iconst hx hb dX8_judge_48 ev70 ?_
          refine lv_icmp_eq (tgt := 56) hx hb dX8_judge_49 (by decide) (fun c71 => ?_) (fun c71 => ?_)
          · skip
            have tc71 := nu_eq c71
            obtain ⟨v72, ev72, tv72⟩ : ∃ v : Int32, Int32.ofInt (0) = v ∧ v.toInt = 0 := ⟨_, rfl, by decide +kernel⟩
            refine lv_iconst hx hb dX8_judge_56 ev72 ?_
            exact J57 a0 v72 E_23 H67 k68 l_23 S66 F_23 (by omega) (by omega) (by omega) (by omega) ha0 ta0 (by omega) (by omega) (by omega) (lv_sub hl_23 [0, 1, 2, 3, 5] rfl)
          · skip
            have tc71 := nu_ne c71
            obtain ⟨v73, ev73, tv73⟩ : ∃ v : Int32, Int32.ofInt (1) = v ∧ v.toInt = 1 := ⟨_, rfl, by decide +kernel⟩
            refine lv_iconst hx hb dX8_judge_52 ev73 ?_
            refine lv_goto (tgt := 57) hx hb dX8_judge_53 (by decide) ?_
            exact J57 a0 v73 E_23 H67 k68 l_23 S66 F_23 (by omega) (by omega) (by omega) (by omega) ha0 ta0 (by omega) (by omega) (by omega) (lv_sub hl_23 [0, 1, 2, 3, 5] rfl)
  refine lv_aload_n hx hb dX8_judge_0 rfl (lv_at hl 1 rfl) ?_
  refine lv_aload_n hx hb dX8_judge_1 rfl (lv_at hl 2 rfl) ?_
  refine tr_geti Z.1 Z.2.2.2.1 S0.1 S0.2 ha2 ta2 rfl rfl (fun _ h => List.mem_cons_of_mem _ (List.mem_append_left _ (List.mem_append_left _ (List.mem_append_right _ h)))) 1 (by decide) rfl (hts _ (List.mem_of_getElem? (i := 1) rfl)) dX8_judge_2 (fun v74 ev74 lv74 uv74 => ?_)
  refine tc_vi Z.1 Z.2.2.2.1 Z.2.2.2.2.1 Z.2.2.2.2.2 S0.1 S0.2 ha1 ta1 rfl rfl (k_X1_asked l D cy S0.2 ha1 ta1 v74 (by omega) (by omega)) (cwV 1 hts gX8_judge_X1_asked rfl rfl rfl (by decide +kernel) ⟨Nat.le_of_ble_eq_true rfl, Nat.le_of_ble_eq_true rfl⟩) rfl hl.1 rfl (Nat.le_of_ble_eq_true rfl) dX8_judge_5 ⟨Nat.zero_le _, Nat.zero_le _⟩ (fun v78 E75 H76 k77 W75 I75 G75 p75 => ?_)
  obtain ⟨q75, p75_0, p75_1, p75_2⟩ := p75
  have q75 := q75.symm
  subst q75
  have S75 : Now D TB cy (va_A (va_pl L E) sz) s L τ E H76 k77 := ⟨W75, I75⟩
  refine lv_istore_n (lv' := [(3, .int v78), (0, .ref a0), (1, .ref a1), (2, .ref a2)]) hx hb dX8_judge_8 rfl hl (by decide) rfl (fun l79 hl80 => ?_)
  refine lv_aload_n hx hb dX8_judge_9 rfl (lv_at hl80 1 rfl) ?_
  refine lv_aload_n hx hb dX8_judge_10 rfl (lv_at hl80 2 rfl) ?_
  refine tr_geti Z.1 Z.2.2.2.1 S75.1 S75.2 ha1 ta1 rfl rfl (fun _ h => List.mem_cons_of_mem _ (List.mem_append_left _ (List.mem_append_right _ h))) 0 (by decide) rfl (hts _ (List.mem_of_getElem? (i := 2) rfl)) dX8_judge_11 (fun v81 ev81 lv81 uv81 => ?_)
  refine tr_putz Z.1 Z.2.2.2.1 S75.1 S75.2 ha0 ta0 rfl rfl (fun _ h => List.mem_cons_of_mem _ (List.mem_append_right _ h)) tyX8_ok nmX8 0 (by decide) rfl rfl rfl (hts _ (List.mem_of_getElem? (i := 3) rfl)) dX8_judge_14 (by omega) (by omega) (fun E82 H83 k84 W82 I82 P82 => ?_)
  have S82 : Now D TB cy (va_A (va_pl L E) sz) s L τ E82 H83 k84 := ⟨W82, I82⟩
  have F82 : Fr L τ (inW [(6, 0)]) E E82 := Fr.put F0_ P82 ta0 rfl
  obtain ⟨v85, ev85, tv85⟩ : ∃ v : Int32, Int32.ofInt (-1) = v ∧ v.toInt = -1 := ⟨_, rfl, by decide +kernel⟩
  refine lv_iconst hx hb dX8_judge_17 ev85 ?_
  refine lv_istore (lv' := [(4, .int v85), (3, .int v78), (0, .ref a0), (1, .ref a1), (2, .ref a2)]) hx hb dX8_judge_18 hl80 (by decide) rfl (fun l86 hl87 => ?_)
  obtain ⟨v88, ev88, tv88⟩ : ∃ v : Int32, Int32.ofInt (0) = v ∧ v.toInt = 0 := ⟨_, rfl, by decide +kernel⟩
  refine lv_iconst hx hb dX8_judge_20 ev88 ?_
  refine lv_istore (lv' := [(5, .int v88), (4, .int v85), (3, .int v78), (0, .ref a0), (1, .ref a1), (2, .ref a2)]) hx hb dX8_judge_21 hl87 (by decide) rfl (fun l89 hl90 => ?_)
  exact J23 _ v78 v85 v88 E82 H83 k84 l89 S82 F82 (by omega) (by omega) (by omega) (by omega) (by omega) (by omega) (by omega) (Nat.lt_succ_self _) (lv_sub hl90 [3, 4, 5, 2, 1, 0] rfl)

set_option maxHeartbeats 4000000 in
set_option maxRecDepth 100000 in
theorem k_X8_judge_v1 (l : Launch) (D : va_G) (cy : Nat → ClassId) {L : List Nat} {τ : Nat → Ro} {E : Ec} (hI : Inv TB cy L τ E) {lw : Nat} {a0 : Nat} (ha0 : a0 ∈ L) (ta0 : τ a0 = (6, 1)) {a1 : Nat} (ha1 : a1 ∈ L) (ta1 : τ a1 = (10, lw)) {a2 : Nat} (ha2 : a2 ∈ L) (ta2 : τ a2 = (5, 1)) : CtV l yX8_judge wsX8_judge { frames := 3, cells := 0, slots := 0, locals := 72 } D TB cy L τ E [.ref a0, .ref a1, .ref a2] (inW [(6, 1)]) (fun E' => True) := by
  intro sz
  refine sta (cc := cX8_judge) (maxL := 6) hI (by decide) rfl (Nat.le_of_ble_eq_true rfl) (fun p e s m args below meth c ls hsz Z S0 hl => ?_)
  have hx := Z.1.1
  have hb := Z.1.2.1
  have hts := Z.1.2.2.2.2
  have F0_ : Fr L τ (inW [(6, 1)]) E E := Fr.refl
  have hl : lv_has ls 6 [(0, .ref a0), (1, .ref a1), (2, .ref a2)] := hl
  generalize hQ : MQ below _ args s 0 0 _ = QQ
  have J108 : ∀ (x3_108 : Int32) (y0_108 : Nat) (y1_108 : Nat) (y2_108 : Nat) (y3_108 : Int32) (E_108 : Ec) (H_108 : Heap) (k_108 : List Loc) (l_108 : Array Slot), Now D TB cy (va_A (va_pl L E) sz) s L τ E_108 H_108 k_108 → Fr L τ (inW [(6, 1)]) E E_108 → (-1 ≤ x3_108.toInt) → (x3_108.toInt ≤ 66) → (y0_108 ∈ L) → (τ y0_108 = (6, 1)) → (y1_108 ∈ L) → (τ y1_108 = (10, lw)) → (y2_108 ∈ L) → (τ y2_108 = (5, 1)) → (-1 ≤ y3_108.toInt) → (y3_108.toInt ≤ 65) → (x3_108.toInt + ((lw % 2 : Nat) : Int) ≤ 66) → lv_has l_108 6 [(3, .int x3_108)] → W p l e { frames := 3, cells := 0, slots := 0, locals := 72 } s m args below meth c H_108 k_108 0 0 QQ (F0 m 108 l_108 [.int y3_108, .ref y2_108, .ref y1_108, .ref y0_108]) := by
    intro x3_108 y0_108 y1_108 y2_108 y3_108 E_108 H_108 k_108 l_108 S_108 F_108 z1 z2 z3 z4 z5 z6 z7 z8 z9 z10 z11 hl_108
    refine lv_iload_n hx hb dX8_judge_108 rfl (lv_at hl_108 0 rfl) ?_
    refine tc_vv Z.1 Z.2.2.2.1 Z.2.2.2.2.1 Z.2.2.2.2.2 S_108.1 S_108.2 z3 z4 rfl rfl (k_X8_blame_v1 l D cy S_108.2 z3 z4 z5 z6 z7 z8 y3_108 x3_108 (by omega) (by omega) (by omega)) (cwV 4 hts gX8_judge_X8_blame rfl rfl rfl (by decide +kernel) ⟨Nat.le_of_ble_eq_true rfl, Nat.le_of_ble_eq_true rfl⟩) rfl hl_108.1 rfl (Nat.le_of_ble_eq_true rfl) dX8_judge_109 ⟨Nat.zero_le _, Nat.zero_le _⟩ (fun E12 H13 k14 W12 I12 G12 p12 => ?_)
    have S12 : Now D TB cy (va_A (va_pl L E) sz) s L τ E12 H13 k14 := ⟨W12, I12⟩
    have F12 : Fr L τ (inW [(6, 1)]) E E12 := F_108.trans (G12.mono (inW_mono (by decide)))
    rw [← hQ]
    exact en_v Z S12 F12 trivial dX8_judge_112
  have J70 : ∀ (x3_70 : Int32) (x4_70 : Int32) (E_70 : Ec) (H_70 : Heap) (k_70 : List Loc) (l_70 : Array Slot), Now D TB cy (va_A (va_pl L E) sz) s L τ E_70 H_70 k_70 → Fr L τ (inW [(6, 1)]) E E_70 → (-1 ≤ x3_70.toInt) → (x3_70.toInt ≤ 66) → (-1 ≤ x4_70.toInt) → (x4_70.toInt ≤ 65) → (x3_70.toInt + ((lw % 2 : Nat) : Int) ≤ 66) → lv_has l_70 6 [(0, .ref a0), (1, .ref a1), (2, .ref a2), (3, .int x3_70), (4, .int x4_70)] → W p l e { frames := 3, cells := 0, slots := 0, locals := 72 } s m args below meth c H_70 k_70 0 0 QQ (F0 m 70 l_70 []) := by
    intro x3_70 x4_70 E_70 H_70 k_70 l_70 S_70 F_70 z16 z17 z18 z19 z20 hl_70
    refine lv_aload_n hx hb dX8_judge_70 rfl (lv_at hl_70 0 rfl) ?_
    obtain ⟨v21, ev21, tv21⟩ : ∃ v : Int32, Int32.ofInt (-1) = v ∧ v.toInt = -1 := ⟨_, rfl, by decide +kernel⟩
    refine lv_iconst hx hb dX8_judge_71 ev21 ?_
    refine tr_puti Z.1 Z.2.2.2.1 S_70.1 S_70.2 ha0 ta0 rfl rfl (fun _ h => List.mem_cons_of_mem _ (List.mem_append_right _ h)) tyX8_ok nmX8 1 (by decide) rfl rfl rfl (hts _ (List.mem_of_getElem? (i := 4) rfl)) dX8_judge_72 (by have := fb_rng v21; omega) (by have := fb_rng v21; omega) (fun E22 H23 k24 W22 I22 P22 => ?_)
    have S22 : Now D TB cy (va_A (va_pl L E) sz) s L τ E22 H23 k24 := ⟨W22, I22⟩
    have F22 : Fr L τ (inW [(6, 1)]) E E22 := Fr.put F_70 P22 ta0 rfl
    refine lv_aload_n hx hb dX8_judge_75 rfl (lv_at hl_70 0 rfl) ?_
    obtain ⟨v25, ev25, tv25⟩ : ∃ v : Int32, Int32.ofInt (-1) = v ∧ v.toInt = -1 := ⟨_, rfl, by decide +kernel⟩
    refine lv_iconst hx hb dX8_judge_76 ev25 ?_
    refine tr_puti Z.1 Z.2.2.2.1 S22.1 S22.2 ha0 ta0 rfl rfl (fun _ h => List.mem_cons_of_mem _ (List.mem_append_right _ h)) tyX8_ok nmX8 2 (by decide) rfl rfl rfl (hts _ (List.mem_of_getElem? (i := 5) rfl)) dX8_judge_77 (by have := fb_rng v25; omega) (by have := fb_rng v25; omega) (fun E26 H27 k28 W26 I26 P26 => ?_)
    have S26 : Now D TB cy (va_A (va_pl L E) sz) s L τ E26 H27 k28 := ⟨W26, I26⟩
    have F26 : Fr L τ (inW [(6, 1)]) E E26 := Fr.put F22 P26 ta0 rfl
    refine lv_aload_n hx hb dX8_judge_80 rfl (lv_at hl_70 0 rfl) ?_
    obtain ⟨v29, ev29, tv29⟩ : ∃ v : Int32, Int32.ofInt (0) = v ∧ v.toInt = 0 := ⟨_, rfl, by decide +kernel⟩
    refine lv_iconst hx hb dX8_judge_81 ev29 ?_
    refine tr_puti Z.1 Z.2.2.2.1 S26.1 S26.2 ha0 ta0 rfl rfl (fun _ h => List.mem_cons_of_mem _ (List.mem_append_right _ h)) tyX8_ok nmX8 3 (by decide) rfl rfl rfl (hts _ (List.mem_of_getElem? (i := 6) rfl)) dX8_judge_82 (by have := fb_rng v29; omega) (by have := fb_rng v29; omega) (fun E30 H31 k32 W30 I30 P30 => ?_)
    have S30 : Now D TB cy (va_A (va_pl L E) sz) s L τ E30 H31 k32 := ⟨W30, I30⟩
    have F30 : Fr L τ (inW [(6, 1)]) E E30 := Fr.put F26 P30 ta0 rfl
    refine lv_aload_n hx hb dX8_judge_85 rfl (lv_at hl_70 0 rfl) ?_
    refine tr_geti Z.1 Z.2.2.2.1 S30.1 S30.2 ha0 ta0 rfl rfl (fun _ h => List.mem_cons_of_mem _ (List.mem_append_right _ h)) 0 (by decide) rfl (hts _ (List.mem_of_getElem? (i := 3) rfl)) dX8_judge_86 (fun v33 ev33 lv33 uv33 => ?_)
    refine lv_if_eq (tgt := 112) hx hb dX8_judge_89 (by decide) (fun c34 => ?_) (fun c34 => ?_)
    · skip
      have tc34 := nu_eq c34
      have uc34 : (0 : Int32).toInt = 0 := rfl
      rw [← hQ]
      exact en_v Z S30 F30 trivial dX8_judge_112
    · skip
      have tc34 := nu_ne c34
      have uc34 : (0 : Int32).toInt = 0 := rfl
      refine lv_aload_n hx hb dX8_judge_92 rfl (lv_at hl_70 0 rfl) ?_
      refine lv_aload_n hx hb dX8_judge_93 rfl (lv_at hl_70 1 rfl) ?_
      refine lv_aload_n hx hb dX8_judge_94 rfl (lv_at hl_70 2 rfl) ?_
      refine lv_aload_n hx hb dX8_judge_95 rfl (lv_at hl_70 1 rfl) ?_
      refine tr_geti Z.1 Z.2.2.2.1 S30.1 S30.2 ha1 ta1 rfl rfl (fun _ h => List.mem_cons_of_mem _ (List.mem_append_left _ (List.mem_append_right _ h))) 0 (by decide) rfl (hts _ (List.mem_of_getElem? (i := 2) rfl)) dX8_judge_96 (fun v35 ev35 lv35 uv35 => ?_)
      refine lv_if_eq (tgt := 106) hx hb dX8_judge_99 (by decide) (fun c36 => ?_) (fun c36 => ?_)
      · skip
        have tc36 := nu_eq c36
        have uc36 : (0 : Int32).toInt = 0 := rfl
        refine lv_iload hx hb dX8_judge_106 (lv_at hl_70 4 rfl) ?_
        exact J108 x3_70 a0 a1 a2 x4_70 E30 H31 k32 l_70 S30 F30 (by omega) (by omega) ha0 ta0 ha1 ta1 ha2 ta2 (by omega) (by omega) (by omega) (lv_sub hl_70 [3] rfl)
      · skip
        have tc36 := nu_ne c36
        have uc36 : (0 : Int32).toInt = 0 := rfl
        obtain ⟨v37, ev37, tv37⟩ : ∃ v : Int32, Int32.ofInt (0) = v ∧ v.toInt = 0 := ⟨_, rfl, by decide +kernel⟩
        refine lv_iconst hx hb dX8_judge_102 ev37 ?_
        refine lv_goto (tgt := 108) hx hb dX8_judge_103 (by decide) ?_
        exact J108 x3_70 a0 a1 a2 v37 E30 H31 k32 l_70 S30 F30 (by omega) (by omega) ha0 ta0 ha1 ta1 ha2 ta2 (by omega) (by omega) (by omega) (lv_sub hl_70 [3] rfl)
  have J23 : ∀ (n : Nat) (x3_23 : Int32) (x4_23 : Int32) (x5_23 : Int32) (E_23 : Ec) (H_23 : Heap) (k_23 : List Loc) (l_23 : Array Slot), Now D TB cy (va_A (va_pl L E) sz) s L τ E_23 H_23 k_23 → Fr L τ (inW [(6, 1)]) E E_23 → (-1 ≤ x3_23.toInt) → (x3_23.toInt ≤ 66) → (-1 ≤ x4_23.toInt) → (x4_23.toInt ≤ 65) → (0 ≤ x5_23.toInt) → (x5_23.toInt ≤ 66) → (x3_23.toInt + ((lw % 2 : Nat) : Int) ≤ 66) → (66 - x5_23.toInt).toNat < n → lv_has l_23 6 [(0, .ref a0), (1, .ref a1), (2, .ref a2), (3, .int x3_23), (4, .int x4_23), (5, .int x5_23)] → W p l e { frames := 3, cells := 0, slots := 0, locals := 72 } s m args below meth c H_23 k_23 0 0 QQ (F0 m 23 l_23 []) := by
    intro n
    induction n with
    | zero => intro x3_23 x4_23 x5_23 E_23 H_23 k_23 l_23 S_23 F_23 z38 z39 z40 z41 z42 z43 z44 hm hl_23; exact absurd hm (Nat.not_lt_zero _)
    | succ n ih =>
      intro x3_23 x4_23 x5_23 E_23 H_23 k_23 l_23 S_23 F_23 z38 z39 z40 z41 z42 z43 z44 hm hl_23
      have ih_23 := ih
      have J57 : ∀ (y0_57 : Nat) (y1_57 : Int32) (E_57 : Ec) (H_57 : Heap) (k_57 : List Loc) (l_57 : Array Slot), Now D TB cy (va_A (va_pl L E) sz) s L τ E_57 H_57 k_57 → Fr L τ (inW [(6, 1)]) E E_57 → (1 ≤ x3_23.toInt) → (x3_23.toInt ≤ 66) → (0 ≤ x5_23.toInt) → (x5_23.toInt ≤ 65) → (y0_57 ∈ L) → (τ y0_57 = (6, 1)) → (0 ≤ y1_57.toInt) → (y1_57.toInt ≤ 1) → (x3_23.toInt + ((lw % 2 : Nat) : Int) ≤ 66) → lv_has l_57 6 [(0, .ref a0), (1, .ref a1), (2, .ref a2), (3, .int x3_23), (5, .int x5_23)] → W p l e { frames := 3, cells := 0, slots := 0, locals := 72 } s m args below meth c H_57 k_57 0 0 QQ (F0 m 57 l_57 [.int y1_57, .ref y0_57]) := by
        intro y0_57 y1_57 E_57 H_57 k_57 l_57 S_57 F_57 z45 z46 z47 z48 z49 z50 z51 z52 z53 hl_57
        refine tr_putz Z.1 Z.2.2.2.1 S_57.1 S_57.2 z49 z50 rfl rfl (fun _ h => List.mem_cons_of_mem _ (List.mem_append_right _ h)) tyX8_ok nmX8 0 (by decide) rfl rfl rfl (hts _ (List.mem_of_getElem? (i := 3) rfl)) dX8_judge_57 (by omega) (by omega) (fun E54 H55 k56 W54 I54 P54 => ?_)
        have S54 : Now D TB cy (va_A (va_pl L E) sz) s L τ E54 H55 k56 := ⟨W54, I54⟩
        have F54 : Fr L τ (inW [(6, 1)]) E E54 := Fr.put F_57 P54 z50 rfl
        refine lv_iload hx hb dX8_judge_60 (lv_at hl_57 4 rfl) ?_
        refine lv_istore (lv' := [(4, .int x5_23), (0, .ref a0), (1, .ref a1), (2, .ref a2), (3, .int x3_23), (5, .int x5_23)]) hx hb dX8_judge_62 hl_57 (by decide) rfl (fun l57 hl58 => ?_)
        obtain ⟨v59, ev59⟩ : ∃ y : Int32, x5_23 + Int32.ofInt (1) = y := ⟨_, rfl⟩
        have tv59 : v59.toInt = x5_23.toInt + (1) := by rw [← ev59]; exact (fb_addI (by rw [show (Int32.ofInt (1)).toInt = 1 from by decide +kernel]; omega) (by rw [show (Int32.ofInt (1)).toInt = 1 from by decide +kernel]; omega)).trans (by rw [show (Int32.ofInt (1)).toInt = 1 from by decide +kernel])
        refine lv_iinc (v := v59) (lv' := [(5, .int v59), (4, .int x5_23), (0, .ref a0), (1, .ref a1), (2, .ref a2), (3, .int x3_23)]) hx hb dX8_judge_64 hl58 (k := 5) rfl ev59 (by decide) rfl (fun l60 hl61 => ?_)
        refine lv_goto (tgt := 23) hx hb dX8_judge_67 (by decide) ?_
        exact ih_23 x3_23 x5_23 v59 E54 H55 k56 l60 S54 F54 (by omega) (by omega) (by omega) (by omega) (by omega) (by omega) (by omega) (by omega) (lv_sub hl61 [2, 3, 4, 5, 1, 0] rfl)
      refine lv_iload hx hb dX8_judge_23 (lv_at hl_23 5 rfl) ?_
      refine lv_iload_n hx hb dX8_judge_25 rfl (lv_at hl_23 3 rfl) ?_
      refine lv_icmp_ge (tgt := 70) hx hb dX8_judge_26 (by decide) (fun c62 => ?_) (fun c62 => ?_)
      · skip
        have tc62 := nu_le c62
        exact J70 x3_23 x4_23 E_23 H_23 k_23 l_23 S_23 F_23 (by omega) (by omega) (by omega) (by omega) (by omega) (lv_sub hl_23 [0, 1, 2, 3, 4] rfl)
      · skip
        have tc62 := nu_nle c62
        refine lv_aload_n hx hb dX8_judge_29 rfl (lv_at hl_23 0 rfl) ?_
        refine tr_geti Z.1 Z.2.2.2.1 S_23.1 S_23.2 ha0 ta0 rfl rfl (fun _ h => List.mem_cons_of_mem _ (List.mem_append_right _ h)) 0 (by decide) rfl (hts _ (List.mem_of_getElem? (i := 3) rfl)) dX8_judge_30 (fun v63 ev63 lv63 uv63 => ?_)
        refine lv_aload_n hx hb dX8_judge_33 rfl (lv_at hl_23 1 rfl) ?_
        refine tr_geti Z.1 Z.2.2.2.1 S_23.1 S_23.2 ha1 ta1 rfl rfl (fun _ h => List.mem_cons_of_mem _ (List.mem_append_left _ (List.mem_append_right _ h))) 0 (by decide) rfl (hts _ (List.mem_of_getElem? (i := 2) rfl)) dX8_judge_34 (fun v64 ev64 lv64 uv64 => ?_)
        refine lv_icmp_ne (tgt := 70) hx hb dX8_judge_37 (by decide) (fun c65 => ?_) (fun c65 => ?_)
        · skip
          have tc65 := nu_ne c65
          exact J70 x3_23 x4_23 E_23 H_23 k_23 l_23 S_23 F_23 (by omega) (by omega) (by omega) (by omega) (by omega) (lv_sub hl_23 [0, 1, 2, 3, 4] rfl)
        · skip
          have tc65 := nu_eq c65
          refine lv_aload_n hx hb dX8_judge_40 rfl (lv_at hl_23 0 rfl) ?_
          refine lv_aload_n hx hb dX8_judge_41 rfl (lv_at hl_23 1 rfl) ?_
          refine lv_aload_n hx hb dX8_judge_42 rfl (lv_at hl_23 2 rfl) ?_
          refine lv_iload hx hb dX8_judge_43 (lv_at hl_23 5 rfl) ?_
          refine tc_vi Z.1 Z.2.2.2.1 Z.2.2.2.2.1 Z.2.2.2.2.2 S_23.1 S_23.2 ha1 ta1 rfl rfl (k_X1_failing_v1 l D cy S_23.2 ha1 ta1 ha2 ta2 x5_23 (by omega) (by omega) (by omega)) (cwV 2 hts gX8_judge_X1_failing rfl rfl rfl (by decide +kernel) ⟨Nat.le_of_ble_eq_true rfl, Nat.le_of_ble_eq_true rfl⟩) rfl hl_23.1 rfl (Nat.le_of_ble_eq_true rfl) dX8_judge_45 ⟨Nat.zero_le _, Nat.zero_le _⟩ (fun v69 E66 H67 k68 W66 I66 G66 p66 => ?_)
          obtain ⟨q66, p66_0, p66_1, p66_2⟩ := p66
          have q66 := q66.symm
          subst q66
          have S66 : Now D TB cy (va_A (va_pl L E) sz) s L τ E_23 H67 k68 := ⟨W66, I66⟩
          obtain ⟨v70, ev70, tv70⟩ : ∃ v : Int32, Int32.ofInt (-1) = v ∧ v.toInt = -1 := ⟨_, rfl, by decide +kernel⟩
          refine lv_iconst hx hb dX8_judge_48 ev70 ?_
          refine lv_icmp_eq (tgt := 56) hx hb dX8_judge_49 (by decide) (fun c71 => ?_) (fun c71 => ?_)
          · skip
            have tc71 := nu_eq c71
            obtain ⟨v72, ev72, tv72⟩ : ∃ v : Int32, Int32.ofInt (0) = v ∧ v.toInt = 0 := ⟨_, rfl, by decide +kernel⟩
            refine lv_iconst hx hb dX8_judge_56 ev72 ?_
            exact J57 a0 v72 E_23 H67 k68 l_23 S66 F_23 (by omega) (by omega) (by omega) (by omega) ha0 ta0 (by omega) (by omega) (by omega) (lv_sub hl_23 [0, 1, 2, 3, 5] rfl)
          · skip
            have tc71 := nu_ne c71
            obtain ⟨v73, ev73, tv73⟩ : ∃ v : Int32, Int32.ofInt (1) = v ∧ v.toInt = 1 := ⟨_, rfl, by decide +kernel⟩
            refine lv_iconst hx hb dX8_judge_52 ev73 ?_
            refine lv_goto (tgt := 57) hx hb dX8_judge_53 (by decide) ?_
            exact J57 a0 v73 E_23 H67 k68 l_23 S66 F_23 (by omega) (by omega) (by omega) (by omega) ha0 ta0 (by omega) (by omega) (by omega) (lv_sub hl_23 [0, 1, 2, 3, 5] rfl)
  refine lv_aload_n hx hb dX8_judge_0 rfl (lv_at hl 1 rfl) ?_
  refine lv_aload_n hx hb dX8_judge_1 rfl (lv_at hl 2 rfl) ?_
  refine tr_geti Z.1 Z.2.2.2.1 S0.1 S0.2 ha2 ta2 rfl rfl (fun _ h => List.mem_cons_of_mem _ (List.mem_append_left _ (List.mem_append_left _ (List.mem_append_right _ h)))) 1 (by decide) rfl (hts _ (List.mem_of_getElem? (i := 1) rfl)) dX8_judge_2 (fun v74 ev74 lv74 uv74 => ?_)
  refine tc_vi Z.1 Z.2.2.2.1 Z.2.2.2.2.1 Z.2.2.2.2.2 S0.1 S0.2 ha1 ta1 rfl rfl (k_X1_asked l D cy S0.2 ha1 ta1 v74 (by omega) (by omega)) (cwV 1 hts gX8_judge_X1_asked rfl rfl rfl (by decide +kernel) ⟨Nat.le_of_ble_eq_true rfl, Nat.le_of_ble_eq_true rfl⟩) rfl hl.1 rfl (Nat.le_of_ble_eq_true rfl) dX8_judge_5 ⟨Nat.zero_le _, Nat.zero_le _⟩ (fun v78 E75 H76 k77 W75 I75 G75 p75 => ?_)
  obtain ⟨q75, p75_0, p75_1, p75_2⟩ := p75
  have q75 := q75.symm
  subst q75
  have S75 : Now D TB cy (va_A (va_pl L E) sz) s L τ E H76 k77 := ⟨W75, I75⟩
  refine lv_istore_n (lv' := [(3, .int v78), (0, .ref a0), (1, .ref a1), (2, .ref a2)]) hx hb dX8_judge_8 rfl hl (by decide) rfl (fun l79 hl80 => ?_)
  refine lv_aload_n hx hb dX8_judge_9 rfl (lv_at hl80 1 rfl) ?_
  refine lv_aload_n hx hb dX8_judge_10 rfl (lv_at hl80 2 rfl) ?_
  refine tr_geti Z.1 Z.2.2.2.1 S75.1 S75.2 ha1 ta1 rfl rfl (fun _ h => List.mem_cons_of_mem _ (List.mem_append_left _ (List.mem_append_right _ h))) 0 (by decide) rfl (hts _ (List.mem_of_getElem? (i := 2) rfl)) dX8_judge_11 (fun v81 ev81 lv81 uv81 => ?_)
  refine tr_putz Z.1 Z.2.2.2.1 S75.1 S75.2 ha0 ta0 rfl rfl (fun _ h => List.mem_cons_of_mem _ (List.mem_append_right _ h)) tyX8_ok nmX8 0 (by decide) rfl rfl rfl (hts _ (List.mem_of_getElem? (i := 3) rfl)) dX8_judge_14 (by omega) (by omega) (fun E82 H83 k84 W82 I82 P82 => ?_)
  have S82 : Now D TB cy (va_A (va_pl L E) sz) s L τ E82 H83 k84 := ⟨W82, I82⟩
  have F82 : Fr L τ (inW [(6, 1)]) E E82 := Fr.put F0_ P82 ta0 rfl
  obtain ⟨v85, ev85, tv85⟩ : ∃ v : Int32, Int32.ofInt (-1) = v ∧ v.toInt = -1 := ⟨_, rfl, by decide +kernel⟩
  refine lv_iconst hx hb dX8_judge_17 ev85 ?_
  refine lv_istore (lv' := [(4, .int v85), (3, .int v78), (0, .ref a0), (1, .ref a1), (2, .ref a2)]) hx hb dX8_judge_18 hl80 (by decide) rfl (fun l86 hl87 => ?_)
  obtain ⟨v88, ev88, tv88⟩ : ∃ v : Int32, Int32.ofInt (0) = v ∧ v.toInt = 0 := ⟨_, rfl, by decide +kernel⟩
  refine lv_iconst hx hb dX8_judge_20 ev88 ?_
  refine lv_istore (lv' := [(5, .int v88), (4, .int v85), (3, .int v78), (0, .ref a0), (1, .ref a1), (2, .ref a2)]) hx hb dX8_judge_21 hl87 (by decide) rfl (fun l89 hl90 => ?_)
  exact J23 _ v78 v85 v88 E82 H83 k84 l89 S82 F82 (by omega) (by omega) (by omega) (by omega) (by omega) (by omega) (by omega) (Nat.lt_succ_self _) (lv_sub hl90 [3, 4, 5, 2, 1, 0] rfl)

set_option maxRecDepth 20000 in
theorem ggX8_firstBroken_X4_lawAt : GoodIn wsX8_firstBroken wsX4_lawAt := goodIn_r _ [7, 8, 9, 10, 11, 12, 47, 48, 49, 50, 51, 52, 53, 54, 55, 56, 57, 58, 59, 60, 61, 62] (by decide +kernel) (by decide +kernel)
set_option maxRecDepth 20000 in
theorem gX8_firstBroken_X4_lawAt : GoodIn wsX8_firstBroken (wsV RX8 30 RX4 yX4_lawAt wsX4_lawAt) := goodIn_app (goodIn_of _ (by decide +kernel)) ggX8_firstBroken_X4_lawAt
set_option maxRecDepth 20000 in
theorem ggX8_firstBroken_X8_judge : GoodIn wsX8_firstBroken wsX8_judge := goodIn_r _ [17, 18, 19, 2, 20, 21, 22, 23, 24, 25, 26, 27, 28, 29, 30, 31, 32, 33, 34, 35, 36, 37, 38, 39, 40, 41, 42, 43, 44, 16, 45, 46, 67, 68, 69, 70, 71, 72, 73, 74, 75, 76, 77, 63, 64, 65, 66] (by decide +kernel) (by decide +kernel)
set_option maxRecDepth 20000 in
theorem gX8_firstBroken_X8_judge : GoodIn wsX8_firstBroken (wsV RX8 34 RX8 yX8_judge wsX8_judge) := goodIn_app (goodIn_of _ (by decide +kernel)) ggX8_firstBroken_X8_judge
theorem dX8_firstBroken_0 : decode cX8_firstBroken 0 = .ok (.iconst 0, 1) := by decide +kernel
theorem dX8_firstBroken_1 : decode cX8_firstBroken 1 = .ok (.istore_n 3, 1) := by decide +kernel
theorem dX8_firstBroken_2 : decode cX8_firstBroken 2 = .ok (.iload_n 3, 1) := by decide +kernel
theorem dX8_firstBroken_3 : decode cX8_firstBroken 3 = .ok (.aload_n 1, 1) := by decide +kernel
theorem dX8_firstBroken_4 : decode cX8_firstBroken 4 = .ok (.getfield 25, 3) := by decide +kernel
theorem dX8_firstBroken_7 : decode cX8_firstBroken 7 = .ok (.if_icmp .ge 37, 3) := by decide +kernel
theorem dX8_firstBroken_10 : decode cX8_firstBroken 10 = .ok (.aload_n 1, 1) := by decide +kernel
theorem dX8_firstBroken_11 : decode cX8_firstBroken 11 = .ok (.iload_n 3, 1) := by decide +kernel
theorem dX8_firstBroken_12 : decode cX8_firstBroken 12 = .ok (.invokevirtual 30, 3) := by decide +kernel
theorem dX8_firstBroken_15 : decode cX8_firstBroken 15 = .ok (.astore 4, 2) := by decide +kernel
theorem dX8_firstBroken_17 : decode cX8_firstBroken 17 = .ok (.aload 4, 2) := by decide +kernel
theorem dX8_firstBroken_19 : decode cX8_firstBroken 19 = .ok (.ifnull 19, 3) := by decide +kernel
theorem dX8_firstBroken_22 : decode cX8_firstBroken 22 = .ok (.aload_n 0, 1) := by decide +kernel
theorem dX8_firstBroken_23 : decode cX8_firstBroken 23 = .ok (.aload 4, 2) := by decide +kernel
theorem dX8_firstBroken_25 : decode cX8_firstBroken 25 = .ok (.aload_n 2, 1) := by decide +kernel
theorem dX8_firstBroken_26 : decode cX8_firstBroken 26 = .ok (.invokevirtual 34, 3) := by decide +kernel
theorem dX8_firstBroken_29 : decode cX8_firstBroken 29 = .ok (.aload_n 0, 1) := by decide +kernel
theorem dX8_firstBroken_30 : decode cX8_firstBroken 30 = .ok (.getfield 9, 3) := by decide +kernel
theorem dX8_firstBroken_33 : decode cX8_firstBroken 33 = .ok (.ifCond .eq 5, 3) := by decide +kernel
theorem dX8_firstBroken_36 : decode cX8_firstBroken 36 = .ok (.iload_n 3, 1) := by decide +kernel
theorem dX8_firstBroken_37 : decode cX8_firstBroken 37 = .ok (.ireturn, 1) := by decide +kernel
theorem dX8_firstBroken_38 : decode cX8_firstBroken 38 = .ok (.iinc 3 1, 3) := by decide +kernel
theorem dX8_firstBroken_41 : decode cX8_firstBroken 41 = .ok (.goto (-39), 3) := by decide +kernel
theorem dX8_firstBroken_44 : decode cX8_firstBroken 44 = .ok (.bipush (-2), 2) := by decide +kernel
theorem dX8_firstBroken_46 : decode cX8_firstBroken 46 = .ok (.ireturn, 1) := by decide +kernel
set_option maxHeartbeats 4000000 in
set_option maxRecDepth 100000 in
theorem k_X8_firstBroken_v0 (l : Launch) (D : va_G) (cy : Nat → ClassId) {L : List Nat} {τ : Nat → Ro} {E : Ec} (hI : Inv TB cy L τ E) {a0 : Nat} (ha0 : a0 ∈ L) (ta0 : τ a0 = (6, 0)) {a1 : Nat} (ha1 : a1 ∈ L) (ta1 : τ a1 = (1, 0)) {a2 : Nat} (ha2 : a2 ∈ L) (ta2 : τ a2 = (5, 0)) : CtI l yX8_firstBroken wsX8_firstBroken { frames := 4, cells := 0, slots := 0, locals := 97 } D TB cy L τ E [.ref a0, .ref a1, .ref a2] (inW [(6, 0)]) (fun r E' => True) := by
  intro sz
  refine sta (cc := cX8_firstBroken) (maxL := 5) hI (by decide) rfl (Nat.le_of_ble_eq_true rfl) (fun p e s m args below meth c ls hsz Z S0 hl => ?_)
  have hx := Z.1.1
  have hb := Z.1.2.1
  have hts := Z.1.2.2.2.2
  have F0_ : Fr L τ (inW [(6, 0)]) E E := Fr.refl
  have hl : lv_has ls 5 [(0, .ref a0), (1, .ref a1), (2, .ref a2)] := hl
  generalize hQ : MQ below _ args s 0 0 _ = QQ
  have J2 : ∀ (n : Nat) (x3_2 : Int32) (E_2 : Ec) (H_2 : Heap) (k_2 : List Loc) (l_2 : Array Slot), Now D TB cy (va_A (va_pl L E) sz) s L τ E_2 H_2 k_2 → Fr L τ (inW [(6, 0)]) E E_2 → (0 ≤ x3_2.toInt) → (x3_2.toInt ≤ 8) → (8 - x3_2.toInt).toNat < n → lv_has l_2 5 [(0, .ref a0), (1, .ref a1), (2, .ref a2), (3, .int x3_2)] → W p l e { frames := 4, cells := 0, slots := 0, locals := 97 } s m args below meth c H_2 k_2 0 0 QQ (F0 m 2 l_2 []) := by
    intro n
    induction n with
    | zero => intro x3_2 E_2 H_2 k_2 l_2 S_2 F_2 z1 z2 hm hl_2; exact absurd hm (Nat.not_lt_zero _)
    | succ n ih =>
      intro x3_2 E_2 H_2 k_2 l_2 S_2 F_2 z1 z2 hm hl_2
      have ih_2 := ih
      have J38 : ∀  (E_38 : Ec) (H_38 : Heap) (k_38 : List Loc) (l_38 : Array Slot), Now D TB cy (va_A (va_pl L E) sz) s L τ E_38 H_38 k_38 → Fr L τ (inW [(6, 0)]) E E_38 → (0 ≤ x3_2.toInt) → (x3_2.toInt ≤ 7) → lv_has l_38 5 [(0, .ref a0), (1, .ref a1), (2, .ref a2), (3, .int x3_2)] → W p l e { frames := 4, cells := 0, slots := 0, locals := 97 } s m args below meth c H_38 k_38 0 0 QQ (F0 m 38 l_38 []) := by
        intro  E_38 H_38 k_38 l_38 S_38 F_38 z3 z4 hl_38
        obtain ⟨v5, ev5⟩ : ∃ y : Int32, x3_2 + Int32.ofInt (1) = y := ⟨_, rfl⟩
        have tv5 : v5.toInt = x3_2.toInt + (1) := by rw [← ev5]; exact (fb_addI (by rw [show (Int32.ofInt (1)).toInt = 1 from by decide +kernel]; omega) (by rw [show (Int32.ofInt (1)).toInt = 1 from by decide +kernel]; omega)).trans (by rw [show (Int32.ofInt (1)).toInt = 1 from by decide +kernel])
        refine lv_iinc (v := v5) (lv' := [(3, .int v5), (0, .ref a0), (1, .ref a1), (2, .ref a2)]) hx hb dX8_firstBroken_38 hl_38 (k := 3) rfl ev5 (by decide) rfl (fun l6 hl7 => ?_)
        refine lv_goto (tgt := 2) hx hb dX8_firstBroken_41 (by decide) ?_
        exact ih_2 v5 E_38 H_38 k_38 l6 S_38 F_38 (by omega) (by omega) (by omega) (lv_sub hl7 [1, 2, 3, 0] rfl)
      refine lv_iload_n hx hb dX8_firstBroken_2 rfl (lv_at hl_2 3 rfl) ?_
      refine lv_aload_n hx hb dX8_firstBroken_3 rfl (lv_at hl_2 1 rfl) ?_
      refine tr_geti Z.1 Z.2.2.2.1 S_2.1 S_2.2 ha1 ta1 rfl rfl (fun _ h => List.mem_cons_of_mem _ (List.mem_append_left _ (List.mem_append_left _ (List.mem_append_left _ (List.mem_append_right _ h))))) 7 (by decide) rfl (hts _ (List.mem_of_getElem? (i := 1) rfl)) dX8_firstBroken_4 (fun v8 ev8 lv8 uv8 => ?_)
      refine lv_icmp_ge (tgt := 44) hx hb dX8_firstBroken_7 (by decide) (fun c9 => ?_) (fun c9 => ?_)
      · skip
        have tc9 := nu_le c9
        obtain ⟨v10, ev10, tv10⟩ : ∃ v : Int32, (Int8.ofInt (-2)).toInt32 = v ∧ v.toInt = -2 := ⟨_, rfl, by decide +kernel⟩
        refine lv_bipush hx hb dX8_firstBroken_44 ev10 ?_
        rw [← hQ]
        exact en_i Z S_2 F_2 trivial dX8_firstBroken_46
      · skip
        have tc9 := nu_nle c9
        refine lv_aload_n hx hb dX8_firstBroken_10 rfl (lv_at hl_2 1 rfl) ?_
        refine lv_iload_n hx hb dX8_firstBroken_11 rfl (lv_at hl_2 3 rfl) ?_
        refine tc_vq Z.1 Z.2.2.2.1 Z.2.2.2.2.1 Z.2.2.2.2.2 S_2.1 S_2.2 ha1 ta1 rfl rfl (k_X4_lawAt_v0 l D cy S_2.2 ha1 ta1 x3_2) (cwV 1 hts gX8_firstBroken_X4_lawAt rfl rfl rfl (by decide +kernel) ⟨Nat.le_of_ble_eq_true rfl, Nat.le_of_ble_eq_true rfl⟩) rfl hl_2.1 rfl (Nat.le_of_ble_eq_true rfl) dX8_firstBroken_12 ⟨Nat.zero_le _, Nat.zero_le _⟩ (fun v14 E11 H12 k13 W11 I11 G11 p11 => ?_)
        obtain ⟨q11, p11_0⟩ := p11
        have q11 := q11.symm
        subst q11
        have S11 : Now D TB cy (va_A (va_pl L E) sz) s L τ E_2 H12 k13 := ⟨W11, I11⟩
        cases v14 with
        | none =>
          refine W.eq (g2 := F0 m 15 l_2 [.null]) rfl ?_
          refine lv_astoreN (lv' := [(4, .null), (0, .ref a0), (1, .ref a1), (2, .ref a2), (3, .int x3_2)]) hx hb dX8_firstBroken_15 hl_2 (by decide) rfl (fun l15 hl16 => ?_)
          refine lv_aloadN hx hb dX8_firstBroken_17 (lv_at hl16 0 rfl) ?_
          refine lv_ifnullN (tgt := 38) hx hb dX8_firstBroken_19 (by decide) ?_
          exact J38 E_2 H12 k13 l15 S11 F_2 (by omega) (by omega) (lv_sub hl16 [1, 2, 3, 4] rfl)
        | some q17 =>
          obtain ⟨hq17, gq17⟩ := p11_0 q17 rfl
          obtain ⟨nq17, tq17⟩ : ∃ n : Nat, τ q17 = (10, n) := ⟨(τ q17).2, by rw [← gq17]⟩
          refine W.eq (g2 := F0 m 15 l_2 [.ref q17]) rfl ?_
          refine lv_astore (lv' := [(4, .ref q17), (0, .ref a0), (1, .ref a1), (2, .ref a2), (3, .int x3_2)]) hx hb dX8_firstBroken_15 hl_2 (by decide) rfl (fun l18 hl19 => ?_)
          refine lv_aload hx hb dX8_firstBroken_17 (lv_at hl19 0 rfl) ?_
          refine lv_ifnull hx hb dX8_firstBroken_19 ?_
          refine lv_aload_n hx hb dX8_firstBroken_22 rfl (lv_at hl19 1 rfl) ?_
          refine lv_aload hx hb dX8_firstBroken_23 (lv_at hl19 0 rfl) ?_
          refine lv_aload_n hx hb dX8_firstBroken_25 rfl (lv_at hl19 3 rfl) ?_
          refine tc_vv Z.1 Z.2.2.2.1 Z.2.2.2.2.1 Z.2.2.2.2.2 S11.1 S11.2 ha0 ta0 rfl rfl (k_X8_judge_v0 l D cy S11.2 ha0 ta0 hq17 tq17 ha2 ta2) (cwV 2 hts gX8_firstBroken_X8_judge rfl rfl rfl (by decide +kernel) ⟨Nat.le_of_ble_eq_true rfl, Nat.le_of_ble_eq_true rfl⟩) rfl hl19.1 rfl (Nat.le_of_ble_eq_true rfl) dX8_firstBroken_26 ⟨Nat.zero_le _, Nat.zero_le _⟩ (fun E20 H21 k22 W20 I20 G20 p20 => ?_)
          have S20 : Now D TB cy (va_A (va_pl L E) sz) s L τ E20 H21 k22 := ⟨W20, I20⟩
          have F20 : Fr L τ (inW [(6, 0)]) E E20 := F_2.trans (G20.mono (inW_mono (by decide)))
          refine lv_aload_n hx hb dX8_firstBroken_29 rfl (lv_at hl19 1 rfl) ?_
          refine tr_geti Z.1 Z.2.2.2.1 S20.1 S20.2 ha0 ta0 rfl rfl (fun _ h => List.mem_cons_of_mem _ (List.mem_append_left _ (List.mem_append_left _ (List.mem_append_right _ h)))) 0 (by decide) rfl (hts _ (List.mem_of_getElem? (i := 2) rfl)) dX8_firstBroken_30 (fun v24 ev24 lv24 uv24 => ?_)
          refine lv_if_eq (tgt := 38) hx hb dX8_firstBroken_33 (by decide) (fun c25 => ?_) (fun c25 => ?_)
          · skip
            have tc25 := nu_eq c25
            have uc25 : (0 : Int32).toInt = 0 := rfl
            exact J38 E20 H21 k22 l18 S20 F20 (by omega) (by omega) (lv_sub hl19 [1, 2, 3, 4] rfl)
          · skip
            have tc25 := nu_ne c25
            have uc25 : (0 : Int32).toInt = 0 := rfl
            refine lv_iload_n hx hb dX8_firstBroken_36 rfl (lv_at hl19 4 rfl) ?_
            rw [← hQ]
            exact en_i Z S20 F20 trivial dX8_firstBroken_37
  obtain ⟨v26, ev26, tv26⟩ : ∃ v : Int32, Int32.ofInt (0) = v ∧ v.toInt = 0 := ⟨_, rfl, by decide +kernel⟩
  refine lv_iconst hx hb dX8_firstBroken_0 ev26 ?_
  refine lv_istore_n (lv' := [(3, .int v26), (0, .ref a0), (1, .ref a1), (2, .ref a2)]) hx hb dX8_firstBroken_1 rfl hl (by decide) rfl (fun l27 hl28 => ?_)
  exact J2 _ v26 E s.heap [] l27 S0 F0_ (by omega) (by omega) (Nat.lt_succ_self _) (lv_sub hl28 [1, 2, 3, 0] rfl)

set_option maxHeartbeats 4000000 in
set_option maxRecDepth 100000 in
theorem k_X8_firstBroken_v1 (l : Launch) (D : va_G) (cy : Nat → ClassId) {L : List Nat} {τ : Nat → Ro} {E : Ec} (hI : Inv TB cy L τ E) {a0 : Nat} (ha0 : a0 ∈ L) (ta0 : τ a0 = (6, 1)) {a1 : Nat} (ha1 : a1 ∈ L) (ta1 : τ a1 = (1, 2)) {a2 : Nat} (ha2 : a2 ∈ L) (ta2 : τ a2 = (5, 1)) : CtI l yX8_firstBroken wsX8_firstBroken { frames := 4, cells := 0, slots := 0, locals := 97 } D TB cy L τ E [.ref a0, .ref a1, .ref a2] (inW [(6, 1)]) (fun r E' => True) := by
  intro sz
  refine sta (cc := cX8_firstBroken) (maxL := 5) hI (by decide) rfl (Nat.le_of_ble_eq_true rfl) (fun p e s m args below meth c ls hsz Z S0 hl => ?_)
  have hx := Z.1.1
  have hb := Z.1.2.1
  have hts := Z.1.2.2.2.2
  have F0_ : Fr L τ (inW [(6, 1)]) E E := Fr.refl
  have hl : lv_has ls 5 [(0, .ref a0), (1, .ref a1), (2, .ref a2)] := hl
  generalize hQ : MQ below _ args s 0 0 _ = QQ
  have J2 : ∀ (n : Nat) (x3_2 : Int32) (E_2 : Ec) (H_2 : Heap) (k_2 : List Loc) (l_2 : Array Slot), Now D TB cy (va_A (va_pl L E) sz) s L τ E_2 H_2 k_2 → Fr L τ (inW [(6, 1)]) E E_2 → (0 ≤ x3_2.toInt) → (x3_2.toInt ≤ 8) → (8 - x3_2.toInt).toNat < n → lv_has l_2 5 [(0, .ref a0), (1, .ref a1), (2, .ref a2), (3, .int x3_2)] → W p l e { frames := 4, cells := 0, slots := 0, locals := 97 } s m args below meth c H_2 k_2 0 0 QQ (F0 m 2 l_2 []) := by
    intro n
    induction n with
    | zero => intro x3_2 E_2 H_2 k_2 l_2 S_2 F_2 z1 z2 hm hl_2; exact absurd hm (Nat.not_lt_zero _)
    | succ n ih =>
      intro x3_2 E_2 H_2 k_2 l_2 S_2 F_2 z1 z2 hm hl_2
      have ih_2 := ih
      have J38 : ∀  (E_38 : Ec) (H_38 : Heap) (k_38 : List Loc) (l_38 : Array Slot), Now D TB cy (va_A (va_pl L E) sz) s L τ E_38 H_38 k_38 → Fr L τ (inW [(6, 1)]) E E_38 → (0 ≤ x3_2.toInt) → (x3_2.toInt ≤ 7) → lv_has l_38 5 [(0, .ref a0), (1, .ref a1), (2, .ref a2), (3, .int x3_2)] → W p l e { frames := 4, cells := 0, slots := 0, locals := 97 } s m args below meth c H_38 k_38 0 0 QQ (F0 m 38 l_38 []) := by
        intro  E_38 H_38 k_38 l_38 S_38 F_38 z3 z4 hl_38
        obtain ⟨v5, ev5⟩ : ∃ y : Int32, x3_2 + Int32.ofInt (1) = y := ⟨_, rfl⟩
        have tv5 : v5.toInt = x3_2.toInt + (1) := by rw [← ev5]; exact (fb_addI (by rw [show (Int32.ofInt (1)).toInt = 1 from by decide +kernel]; omega) (by rw [show (Int32.ofInt (1)).toInt = 1 from by decide +kernel]; omega)).trans (by rw [show (Int32.ofInt (1)).toInt = 1 from by decide +kernel])
        refine lv_iinc (v := v5) (lv' := [(3, .int v5), (0, .ref a0), (1, .ref a1), (2, .ref a2)]) hx hb dX8_firstBroken_38 hl_38 (k := 3) rfl ev5 (by decide) rfl (fun l6 hl7 => ?_)
        refine lv_goto (tgt := 2) hx hb dX8_firstBroken_41 (by decide) ?_
        exact ih_2 v5 E_38 H_38 k_38 l6 S_38 F_38 (by omega) (by omega) (by omega) (lv_sub hl7 [1, 2, 3, 0] rfl)
      refine lv_iload_n hx hb dX8_firstBroken_2 rfl (lv_at hl_2 3 rfl) ?_
      refine lv_aload_n hx hb dX8_firstBroken_3 rfl (lv_at hl_2 1 rfl) ?_
      refine tr_geti Z.1 Z.2.2.2.1 S_2.1 S_2.2 ha1 ta1 rfl rfl (fun _ h => List.mem_cons_of_mem _ (List.mem_append_left _ (List.mem_append_left _ (List.mem_append_left _ (List.mem_append_right _ h))))) 7 (by decide) rfl (hts _ (List.mem_of_getElem? (i := 1) rfl)) dX8_firstBroken_4 (fun v8 ev8 lv8 uv8 => ?_)
      refine lv_icmp_ge (tgt := 44) hx hb dX8_firstBroken_7 (by decide) (fun c9 => ?_) (fun c9 => ?_)
      · skip
        have tc9 := nu_le c9
        obtain ⟨v10, ev10, tv10⟩ : ∃ v : Int32, (Int8.ofInt (-2)).toInt32 = v ∧ v.toInt = -2 := ⟨_, rfl, by decide +kernel⟩
        refine lv_bipush hx hb dX8_firstBroken_44 ev10 ?_
        rw [← hQ]
        exact en_i Z S_2 F_2 trivial dX8_firstBroken_46
      · skip
        have tc9 := nu_nle c9
        refine lv_aload_n hx hb dX8_firstBroken_10 rfl (lv_at hl_2 1 rfl) ?_
        refine lv_iload_n hx hb dX8_firstBroken_11 rfl (lv_at hl_2 3 rfl) ?_
        refine tc_vq Z.1 Z.2.2.2.1 Z.2.2.2.2.1 Z.2.2.2.2.2 S_2.1 S_2.2 ha1 ta1 rfl rfl (k_X4_lawAt_v2 l D cy S_2.2 ha1 ta1 x3_2) (cwV 1 hts gX8_firstBroken_X4_lawAt rfl rfl rfl (by decide +kernel) ⟨Nat.le_of_ble_eq_true rfl, Nat.le_of_ble_eq_true rfl⟩) rfl hl_2.1 rfl (Nat.le_of_ble_eq_true rfl) dX8_firstBroken_12 ⟨Nat.zero_le _, Nat.zero_le _⟩ (fun v14 E11 H12 k13 W11 I11 G11 p11 => ?_)
        obtain ⟨q11, p11_0⟩ := p11
        have q11 := q11.symm
        subst q11
        have S11 : Now D TB cy (va_A (va_pl L E) sz) s L τ E_2 H12 k13 := ⟨W11, I11⟩
        cases v14 with
        | none =>
          refine W.eq (g2 := F0 m 15 l_2 [.null]) rfl ?_
          refine lv_astoreN (lv' := [(4, .null), (0, .ref a0), (1, .ref a1), (2, .ref a2), (3, .int x3_2)]) hx hb dX8_firstBroken_15 hl_2 (by decide) rfl (fun l15 hl16 => ?_)
          refine lv_aloadN hx hb dX8_firstBroken_17 (lv_at hl16 0 rfl) ?_
          refine lv_ifnullN (tgt := 38) hx hb dX8_firstBroken_19 (by decide) ?_
          exact J38 E_2 H12 k13 l15 S11 F_2 (by omega) (by omega) (lv_sub hl16 [1, 2, 3, 4] rfl)
        | some q17 =>
          obtain ⟨hq17, gq17⟩ := p11_0 q17 rfl
          obtain ⟨nq17, tq17⟩ : ∃ n : Nat, τ q17 = (10, n) := ⟨(τ q17).2, by rw [← gq17]⟩
          refine W.eq (g2 := F0 m 15 l_2 [.ref q17]) rfl ?_
          refine lv_astore (lv' := [(4, .ref q17), (0, .ref a0), (1, .ref a1), (2, .ref a2), (3, .int x3_2)]) hx hb dX8_firstBroken_15 hl_2 (by decide) rfl (fun l18 hl19 => ?_)
          refine lv_aload hx hb dX8_firstBroken_17 (lv_at hl19 0 rfl) ?_
          refine lv_ifnull hx hb dX8_firstBroken_19 ?_
          refine lv_aload_n hx hb dX8_firstBroken_22 rfl (lv_at hl19 1 rfl) ?_
          refine lv_aload hx hb dX8_firstBroken_23 (lv_at hl19 0 rfl) ?_
          refine lv_aload_n hx hb dX8_firstBroken_25 rfl (lv_at hl19 3 rfl) ?_
          refine tc_vv Z.1 Z.2.2.2.1 Z.2.2.2.2.1 Z.2.2.2.2.2 S11.1 S11.2 ha0 ta0 rfl rfl (k_X8_judge_v1 l D cy S11.2 ha0 ta0 hq17 tq17 ha2 ta2) (cwV 2 hts gX8_firstBroken_X8_judge rfl rfl rfl (by decide +kernel) ⟨Nat.le_of_ble_eq_true rfl, Nat.le_of_ble_eq_true rfl⟩) rfl hl19.1 rfl (Nat.le_of_ble_eq_true rfl) dX8_firstBroken_26 ⟨Nat.zero_le _, Nat.zero_le _⟩ (fun E20 H21 k22 W20 I20 G20 p20 => ?_)
          have S20 : Now D TB cy (va_A (va_pl L E) sz) s L τ E20 H21 k22 := ⟨W20, I20⟩
          have F20 : Fr L τ (inW [(6, 1)]) E E20 := F_2.trans (G20.mono (inW_mono (by decide)))
          refine lv_aload_n hx hb dX8_firstBroken_29 rfl (lv_at hl19 1 rfl) ?_
          refine tr_geti Z.1 Z.2.2.2.1 S20.1 S20.2 ha0 ta0 rfl rfl (fun _ h => List.mem_cons_of_mem _ (List.mem_append_left _ (List.mem_append_left _ (List.mem_append_right _ h)))) 0 (by decide) rfl (hts _ (List.mem_of_getElem? (i := 2) rfl)) dX8_firstBroken_30 (fun v24 ev24 lv24 uv24 => ?_)
          refine lv_if_eq (tgt := 38) hx hb dX8_firstBroken_33 (by decide) (fun c25 => ?_) (fun c25 => ?_)
          · skip
            have tc25 := nu_eq c25
            have uc25 : (0 : Int32).toInt = 0 := rfl
            exact J38 E20 H21 k22 l18 S20 F20 (by omega) (by omega) (lv_sub hl19 [1, 2, 3, 4] rfl)
          · skip
            have tc25 := nu_ne c25
            have uc25 : (0 : Int32).toInt = 0 := rfl
            refine lv_iload_n hx hb dX8_firstBroken_36 rfl (lv_at hl19 4 rfl) ?_
            rw [← hQ]
            exact en_i Z S20 F20 trivial dX8_firstBroken_37
  obtain ⟨v26, ev26, tv26⟩ : ∃ v : Int32, Int32.ofInt (0) = v ∧ v.toInt = 0 := ⟨_, rfl, by decide +kernel⟩
  refine lv_iconst hx hb dX8_firstBroken_0 ev26 ?_
  refine lv_istore_n (lv' := [(3, .int v26), (0, .ref a0), (1, .ref a1), (2, .ref a2)]) hx hb dX8_firstBroken_1 rfl hl (by decide) rfl (fun l27 hl28 => ?_)
  exact J2 _ v26 E s.heap [] l27 S0 F0_ (by omega) (by omega) (Nat.lt_succ_self _) (lv_sub hl28 [1, 2, 3, 0] rfl)

