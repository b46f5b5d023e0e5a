set_option maxRecDepth 20000 in
theorem ggX10_flight_X10_in : GoodIn wsX10_flight wsX10_in := goodIn_r _ [7] (by decide +kernel) (by decide +kernel)
set_option maxRecDepth 20000 in
theorem gX10_flight_X10_in : GoodIn wsX10_flight (wsV RX10 123 RX10 yX10_in wsX10_in) := goodIn_app (goodIn_of _ (by decide +kernel)) ggX10_flight_X10_in
set_option maxRecDepth 20000 in
theorem ggX10_flight_X10_not : GoodIn wsX10_flight wsX10_not := goodIn_r _ [11, 12, 13, 24, 25, 26, 27, 28, 29, 30, 31, 32, 33, 34, 35, 36, 37, 38, 39, 40, 41, 42, 43, 44, 45, 46, 47, 48, 49, 50, 51, 52, 53, 54, 55, 56, 57, 58, 59, 60, 61, 62, 63, 64, 65, 66, 67, 68, 69, 70, 71] (by decide +kernel) (by decide +kernel)
set_option maxRecDepth 20000 in
theorem gX10_flight_X10_not : GoodIn wsX10_flight (wsV RX10 127 RX10 yX10_not wsX10_not) := goodIn_app (goodIn_of _ (by decide +kernel)) ggX10_flight_X10_not
set_option maxRecDepth 20000 in
theorem ggX10_flight_X10_act : GoodIn wsX10_flight wsX10_act := goodIn_r _ [17, 18, 19, 2, 20, 21, 22, 6, 23, 12, 13, 24, 25, 26, 27, 28, 29, 30, 31, 32, 33, 34, 35, 36, 37, 38, 39, 40, 41, 42, 43, 44, 45, 46, 47, 48, 49, 50, 51, 52, 53, 54, 55, 56, 57, 58, 59, 60, 61, 62, 63, 64, 65, 66, 67, 68, 69, 70, 71] (by decide +kernel) (by decide +kernel)
set_option maxRecDepth 20000 in
theorem gX10_flight_X10_act : GoodIn wsX10_flight (wsV RX10 131 RX10 yX10_act wsX10_act) := goodIn_app (goodIn_of _ (by decide +kernel)) ggX10_flight_X10_act
theorem dX10_flight_0 : decode cX10_flight 0 = .ok (.aload_n 0, 1) := by decide +kernel
theorem dX10_flight_1 : decode cX10_flight 1 = .ok (.iconst 0, 1) := by decide +kernel
theorem dX10_flight_2 : decode cX10_flight 2 = .ok (.putfield 97, 3) := by decide +kernel
theorem dX10_flight_5 : decode cX10_flight 5 = .ok (.aload_n 0, 1) := by decide +kernel
theorem dX10_flight_6 : decode cX10_flight 6 = .ok (.iload_n 1, 1) := by decide +kernel
theorem dX10_flight_7 : decode cX10_flight 7 = .ok (.iconst 0, 1) := by decide +kernel
theorem dX10_flight_8 : decode cX10_flight 8 = .ok (.aload_n 0, 1) := by decide +kernel
theorem dX10_flight_9 : decode cX10_flight 9 = .ok (.getfield 7, 3) := by decide +kernel
theorem dX10_flight_12 : decode cX10_flight 12 = .ok (.iconst 4, 1) := by decide +kernel
theorem dX10_flight_13 : decode cX10_flight 13 = .ok (.iaload, 1) := by decide +kernel
theorem dX10_flight_14 : decode cX10_flight 14 = .ok (.iconst 1, 1) := by decide +kernel
theorem dX10_flight_15 : decode cX10_flight 15 = .ok (.isub, 1) := by decide +kernel
theorem dX10_flight_16 : decode cX10_flight 16 = .ok (.invokevirtual 123, 3) := by decide +kernel
theorem dX10_flight_19 : decode cX10_flight 19 = .ok (.ifCond .ne 9, 3) := by decide +kernel
theorem dX10_flight_22 : decode cX10_flight 22 = .ok (.aload_n 0, 1) := by decide +kernel
theorem dX10_flight_23 : decode cX10_flight 23 = .ok (.iconst 4, 1) := by decide +kernel
theorem dX10_flight_24 : decode cX10_flight 24 = .ok (.invokevirtual 127, 3) := by decide +kernel
theorem dX10_flight_27 : decode cX10_flight 27 = .ok (.ireturn, 1) := by decide +kernel
theorem dX10_flight_28 : decode cX10_flight 28 = .ok (.iload_n 2, 1) := by decide +kernel
theorem dX10_flight_29 : decode cX10_flight 29 = .ok (.istore 4, 2) := by decide +kernel
theorem dX10_flight_31 : decode cX10_flight 31 = .ok (.iconst 0, 1) := by decide +kernel
theorem dX10_flight_32 : decode cX10_flight 32 = .ok (.istore 5, 2) := by decide +kernel
theorem dX10_flight_34 : decode cX10_flight 34 = .ok (.iload 5, 2) := by decide +kernel
theorem dX10_flight_36 : decode cX10_flight 36 = .ok (.aload_n 0, 1) := by decide +kernel
theorem dX10_flight_37 : decode cX10_flight 37 = .ok (.getfield 7, 3) := by decide +kernel
theorem dX10_flight_40 : decode cX10_flight 40 = .ok (.iconst 4, 1) := by decide +kernel
theorem dX10_flight_41 : decode cX10_flight 41 = .ok (.iaload, 1) := by decide +kernel
theorem dX10_flight_42 : decode cX10_flight 42 = .ok (.if_icmp .ge 33, 3) := by decide +kernel
theorem dX10_flight_45 : decode cX10_flight 45 = .ok (.iload 4, 2) := by decide +kernel
theorem dX10_flight_47 : decode cX10_flight 47 = .ok (.iload 5, 2) := by decide +kernel
theorem dX10_flight_49 : decode cX10_flight 49 = .ok (.iload_n 1, 1) := by decide +kernel
theorem dX10_flight_50 : decode cX10_flight 50 = .ok (.if_icmp .ne 7, 3) := by decide +kernel
theorem dX10_flight_53 : decode cX10_flight 53 = .ok (.iconst 0, 1) := by decide +kernel
theorem dX10_flight_54 : decode cX10_flight 54 = .ok (.goto 12, 3) := by decide +kernel
theorem dX10_flight_57 : decode cX10_flight 57 = .ok (.aload_n 0, 1) := by decide +kernel
theorem dX10_flight_58 : decode cX10_flight 58 = .ok (.getfield 7, 3) := by decide +kernel
theorem dX10_flight_61 : decode cX10_flight 61 = .ok (.iconst 5, 1) := by decide +kernel
theorem dX10_flight_62 : decode cX10_flight 62 = .ok (.iload 5, 2) := by decide +kernel
theorem dX10_flight_64 : decode cX10_flight 64 = .ok (.iadd, 1) := by decide +kernel
theorem dX10_flight_65 : decode cX10_flight 65 = .ok (.iaload, 1) := by decide +kernel
theorem dX10_flight_66 : decode cX10_flight 66 = .ok (.iadd, 1) := by decide +kernel
theorem dX10_flight_67 : decode cX10_flight 67 = .ok (.istore 4, 2) := by decide +kernel
theorem dX10_flight_69 : decode cX10_flight 69 = .ok (.iinc 5 1, 3) := by decide +kernel
theorem dX10_flight_72 : decode cX10_flight 72 = .ok (.goto (-38), 3) := by decide +kernel
theorem dX10_flight_75 : decode cX10_flight 75 = .ok (.aload_n 0, 1) := by decide +kernel
theorem dX10_flight_76 : decode cX10_flight 76 = .ok (.iload_n 2, 1) := by decide +kernel
theorem dX10_flight_77 : decode cX10_flight 77 = .ok (.iconst 0, 1) := by decide +kernel
theorem dX10_flight_78 : decode cX10_flight 78 = .ok (.bipush 20, 2) := by decide +kernel
theorem dX10_flight_80 : decode cX10_flight 80 = .ok (.invokevirtual 123, 3) := by decide +kernel
theorem dX10_flight_83 : decode cX10_flight 83 = .ok (.ifCond .eq 20, 3) := by decide +kernel
theorem dX10_flight_86 : decode cX10_flight 86 = .ok (.aload_n 0, 1) := by decide +kernel
theorem dX10_flight_87 : decode cX10_flight 87 = .ok (.iload_n 3, 1) := by decide +kernel
theorem dX10_flight_88 : decode cX10_flight 88 = .ok (.iconst 0, 1) := by decide +kernel
theorem dX10_flight_89 : decode cX10_flight 89 = .ok (.sipush 6000, 3) := by decide +kernel
theorem dX10_flight_92 : decode cX10_flight 92 = .ok (.invokevirtual 123, 3) := by decide +kernel
theorem dX10_flight_95 : decode cX10_flight 95 = .ok (.ifCond .eq 8, 3) := by decide +kernel
theorem dX10_flight_98 : decode cX10_flight 98 = .ok (.iload 4, 2) := by decide +kernel
theorem dX10_flight_100 : decode cX10_flight 100 = .ok (.ifCond .ne 9, 3) := by decide +kernel
theorem dX10_flight_103 : decode cX10_flight 103 = .ok (.aload_n 0, 1) := by decide +kernel
theorem dX10_flight_104 : decode cX10_flight 104 = .ok (.iconst 1, 1) := by decide +kernel
theorem dX10_flight_105 : decode cX10_flight 105 = .ok (.invokevirtual 127, 3) := by decide +kernel
theorem dX10_flight_108 : decode cX10_flight 108 = .ok (.ireturn, 1) := by decide +kernel
theorem dX10_flight_109 : decode cX10_flight 109 = .ok (.aload_n 0, 1) := by decide +kernel
theorem dX10_flight_110 : decode cX10_flight 110 = .ok (.invokevirtual 131, 3) := by decide +kernel
theorem dX10_flight_113 : decode cX10_flight 113 = .ok (.aload_n 0, 1) := by decide +kernel
theorem dX10_flight_114 : decode cX10_flight 114 = .ok (.getfield 7, 3) := by decide +kernel
theorem dX10_flight_117 : decode cX10_flight 117 = .ok (.iconst 5, 1) := by decide +kernel
theorem dX10_flight_118 : decode cX10_flight 118 = .ok (.iload_n 1, 1) := by decide +kernel
theorem dX10_flight_119 : decode cX10_flight 119 = .ok (.iadd, 1) := by decide +kernel
theorem dX10_flight_120 : decode cX10_flight 120 = .ok (.iload_n 2, 1) := by decide +kernel
theorem dX10_flight_121 : decode cX10_flight 121 = .ok (.iastore, 1) := by decide +kernel
theorem dX10_flight_122 : decode cX10_flight 122 = .ok (.aload_n 0, 1) := by decide +kernel
theorem dX10_flight_123 : decode cX10_flight 123 = .ok (.getfield 7, 3) := by decide +kernel
theorem dX10_flight_126 : decode cX10_flight 126 = .ok (.bipush 8, 2) := by decide +kernel
theorem dX10_flight_128 : decode cX10_flight 128 = .ok (.iload_n 1, 1) := by decide +kernel
theorem dX10_flight_129 : decode cX10_flight 129 = .ok (.iadd, 1) := by decide +kernel
theorem dX10_flight_130 : decode cX10_flight 130 = .ok (.iload_n 3, 1) := by decide +kernel
theorem dX10_flight_131 : decode cX10_flight 131 = .ok (.iastore, 1) := by decide +kernel
theorem dX10_flight_132 : decode cX10_flight 132 = .ok (.iconst 1, 1) := by decide +kernel
theorem dX10_flight_133 : decode cX10_flight 133 = .ok (.ireturn, 1) := by decide +kernel
set_option maxHeartbeats 4000000 in
set_option maxRecDepth 100000 in
theorem k_X10_flight (l : Launch) (D : va_G) (cy : Nat → ClassId) {L : List Nat} {τ : Nat → Ro} {E : Ec} (hI : Inv TB cy L τ E) {a0 : Nat} (ha0 : a0 ∈ L) (ta0 : τ a0 = (11, 0)) (a1 : Int32) (a2 : Int32) (a3 : Int32) (hC : Chain L τ E) : CtI l yX10_flight wsX10_flight { frames := 2, cells := 0, slots := 0, locals := 41 } D TB cy L τ E [.ref a0, .int a1, .int a2, .int a3] (inW [(11, 0), (60, 0), (61, 0)]) (fun r E' => 0 ≤ r.toInt ∧ r.toInt ≤ 1 ∧ (∀ k : Nat, k ∉ ([2, 3, 4, 6] : List Nat) → fi E' a0 k = fi E a0 k) ∧ Chain L τ E') := by
  intro sz
  refine sta (cc := cX10_flight) (maxL := 6) hI (by decide) rfl (Nat.le_of_ble_eq_true rfl) (fun p e s m args below meth c ls hsz Z S0 hl => ?_)
  have hx := Z.1.1
  have hb := Z.1.2.1
  have hts := Z.1.2.2.2.2
  have F0_ : Fr L τ (inW [(11, 0), (60, 0), (61, 0)]) E E := Fr.refl
  have hl : lv_has ls 6 [(0, .ref a0), (1, .int a1), (2, .int a2), (3, .int a3)] := hl
  generalize hQ : MQ below _ args s 0 0 _ = QQ
  obtain ⟨qn, hqn, tqn⟩ := ref_of (k := 0) hI ha0 ta0 rfl rfl
  have tqn : τ qn = (60, 0) := tqn
  obtain ⟨qp, hqp, tqp⟩ := ref_of (k := 1) hI ha0 ta0 rfl rfl
  have tqp : τ qp = (61, 0) := tqp
  have J103 : ∀  (E_103 : Ec) (H_103 : Heap) (k_103 : List Loc) (l_103 : Array Slot), Now D TB cy (va_A (va_pl L E) sz) s L τ E_103 H_103 k_103 → Fr L τ (inW [(11, 0), (60, 0), (61, 0)]) E E_103 → (Chain L τ E_103) → (∀ k : Nat, k ∉ ([2, 3, 4, 6] : List Nat) → fi E_103 a0 k = fi E a0 k) → lv_has l_103 6 [(0, .ref a0)] → W p l e { frames := 2, cells := 0, slots := 0, locals := 41 } s m args below meth c H_103 k_103 0 0 QQ (F0 m 103 l_103 []) := by
    intro  E_103 H_103 k_103 l_103 S_103 F_103 z1 z2 hl_103
    refine lv_aload_n hx hb dX10_flight_103 rfl (lv_at hl_103 0 rfl) ?_
    obtain ⟨v3, ev3, tv3⟩ : ∃ v : Int32, Int32.ofInt (1) = v ∧ v.toInt = 1 := ⟨_, rfl, by decide +kernel⟩
    refine lv_iconst hx hb dX10_flight_104 ev3 ?_
    refine tc_vi Z.1 Z.2.2.2.1 Z.2.2.2.2.1 Z.2.2.2.2.2 S_103.1 S_103.2 ha0 ta0 rfl rfl (k_X10_not l D cy S_103.2 ha0 ta0 v3) (cwV 1 hts gX10_flight_X10_not rfl rfl rfl (by decide +kernel) ⟨Nat.le_of_ble_eq_true rfl, Nat.le_of_ble_eq_true rfl⟩) rfl hl_103.1 rfl (Nat.le_of_ble_eq_true rfl) dX10_flight_105 ⟨Nat.zero_le _, Nat.zero_le _⟩ (fun v7 E4 H5 k6 W4 I4 G4 p4 => ?_)
    obtain ⟨p4_0, p4_1, p4_2⟩ := p4
    have S4 : Now D TB cy (va_A (va_pl L E) sz) s L τ E4 H5 k6 := ⟨W4, I4⟩
    have F4 : Fr L τ (inW [(11, 0), (60, 0), (61, 0)]) E E4 := F_103.trans (G4.mono (inW_mono (by decide)))
    rw [← hQ]
    exact en_z Z S4 F4 (zo v7 (by omega)) ⟨(by omega), (by omega), (fun k hk => ((p4_2 k (fw_sub (by decide) hk)).trans (z2 k hk))), (Chain.same z1 S4.2 ha0 ta0 hqn tqn hqp tqp (G4 qn hqn (by rw [tqn]; rfl)) (G4 qp hqp (by rw [tqp]; rfl)) (p4_2 2 (by decide)))⟩ dX10_flight_108
  have J34 : ∀ (n : Nat) (x4_34 : Int32) (x5_34 : Int32) (E_34 : Ec) (H_34 : Heap) (k_34 : List Loc) (l_34 : Array Slot), Now D TB cy (va_A (va_pl L E) sz) s L τ E_34 H_34 k_34 → Fr L τ (inW [(11, 0), (60, 0), (61, 0)]) E E_34 → (0 ≤ a1.toInt) → (a1.toInt ≤ 2) → (0 ≤ x5_34.toInt) → (x5_34.toInt ≤ 3) → (Chain L τ E_34) → (∀ k : Nat, k ∉ ([2, 3, 4, 6] : List Nat) → fi E_34 a0 k = fi E a0 k) → (3 - x5_34.toInt).toNat < n → lv_has l_34 6 [(0, .ref a0), (1, .int a1), (2, .int a2), (3, .int a3), (4, .int x4_34), (5, .int x5_34)] → W p l e { frames := 2, cells := 0, slots := 0, locals := 41 } s m args below meth c H_34 k_34 0 0 QQ (F0 m 34 l_34 []) := by
    intro n
    induction n with
    | zero => intro x4_34 x5_34 E_34 H_34 k_34 l_34 S_34 F_34 z8 z9 z10 z11 z12 z13 hm hl_34; exact absurd hm (Nat.not_lt_zero _)
    | succ n ih =>
      intro x4_34 x5_34 E_34 H_34 k_34 l_34 S_34 F_34 z8 z9 z10 z11 z12 z13 hm hl_34
      have ih_34 := ih
      have J66 : ∀ (y0_66 : Int32) (y1_66 : Int32) (E_66 : Ec) (H_66 : Heap) (k_66 : List Loc) (l_66 : Array Slot), Now D TB cy (va_A (va_pl L E) sz) s L τ E_66 H_66 k_66 → Fr L τ (inW [(11, 0), (60, 0), (61, 0)]) E E_66 → (0 ≤ a1.toInt) → (a1.toInt ≤ 2) → (0 ≤ x5_34.toInt) → (x5_34.toInt ≤ 2) → (0 ≤ y1_66.toInt) → (y1_66.toInt ≤ 20) → (Chain L τ E_66) → (∀ k : Nat, k ∉ ([2, 3, 4, 6] : List Nat) → fi E_66 a0 k = fi E a0 k) → lv_has l_66 6 [(0, .ref a0), (1, .int a1), (2, .int a2), (3, .int a3), (5, .int x5_34)] → W p l e { frames := 2, cells := 0, slots := 0, locals := 41 } s m args below meth c H_66 k_66 0 0 QQ (F0 m 66 l_66 [.int y1_66, .int y0_66]) := by
        intro y0_66 y1_66 E_66 H_66 k_66 l_66 S_66 F_66 z14 z15 z16 z17 z18 z19 z20 z21 hl_66
        refine lv_iadd hx hb dX10_flight_66 ?_
        refine lv_topi (fun v22 ev22 => ?_)
        refine lv_istore (lv' := [(4, .int v22), (0, .ref a0), (1, .int a1), (2, .int a2), (3, .int a3), (5, .int x5_34)]) hx hb dX10_flight_67 hl_66 (by decide) rfl (fun l23 hl24 => ?_)
        obtain ⟨v25, ev25⟩ : ∃ y : Int32, x5_34 + Int32.ofInt (1) = y := ⟨_, rfl⟩
        have tv25 : v25.toInt = x5_34.toInt + (1) := by rw [← ev25]; exact (fb_addI (by rw [show (Int32.ofInt (1)).toInt = 1 from by decide +kernel]; omega) (by rw [show (Int32.ofInt (1)).toInt = 1 from by decide +kernel]; omega)).trans (by rw [show (Int32.ofInt (1)).toInt = 1 from by decide +kernel])
        refine lv_iinc (v := v25) (lv' := [(5, .int v25), (4, .int v22), (0, .ref a0), (1, .int a1), (2, .int a2), (3, .int a3)]) hx hb dX10_flight_69 hl24 (k := 5) rfl ev25 (by decide) rfl (fun l26 hl27 => ?_)
        refine lv_goto (tgt := 34) hx hb dX10_flight_72 (by decide) ?_
        exact ih_34 v22 v25 E_66 H_66 k_66 l26 S_66 F_66 (by have := fb_rng v22; have := fb_rng a2; have := fb_rng a3; omega) (by have := fb_rng v22; have := fb_rng a2; have := fb_rng a3; omega) (by have := fb_rng v22; have := fb_rng a2; have := fb_rng a3; omega) (by have := fb_rng v22; have := fb_rng a2; have := fb_rng a3; omega) z20 (fun k hk => (z21 k hk)) (by omega) (lv_sub hl27 [2, 3, 4, 5, 1, 0] rfl)
      refine lv_iload hx hb dX10_flight_34 (lv_at hl_34 5 rfl) ?_
      refine lv_aload_n hx hb dX10_flight_36 rfl (lv_at hl_34 0 rfl) ?_
      refine tr_getr Z.1 Z.2.2.2.1 S_34.1 S_34.2 ha0 ta0 rfl rfl (fun _ h => List.mem_cons_of_mem _ (List.mem_append_right _ h)) 0 (by decide) rfl (hts _ (List.mem_of_getElem? (i := 2) rfl)) dX10_flight_37 (fun q28 eq28 hq28 tq28 => ?_)
      have tq28 : τ q28 = (60, 0) := tq28
      have uq28 : qn = q28 := S_34.2.2.2.2 _ hqn _ hq28 (tqn.trans tq28.symm) (by rw [tqn]; rfl)
      subst uq28
      obtain ⟨v29, ev29, tv29⟩ : ∃ v : Int32, Int32.ofInt (4) = v ∧ v.toInt = 4 := ⟨_, rfl, by decide +kernel⟩
      refine lv_iconst hx hb dX10_flight_40 ev29 ?_
      refine tr_ialdx Z.1 Z.2.2.2.1 S_34.1 S_34.2 hqn tqn rfl (by omega) (by omega) dX10_flight_41 (fun v30 ev30 lv30 uv30 => ?_)
      have bv30 : nowB v29.toNatClampNeg = (0, 3) := nb_4 (by show v29.toInt.toNat = 4; omega)
      rw [bv30] at lv30 uv30
      have lv30 : 0 ≤ v30.toInt := lv30
      have uv30 : v30.toInt ≤ 3 := uv30
      have av30 : ai E_34 qn 4 = v30 := ai_at ev30 (by omega)
      refine lv_icmp_ge (tgt := 75) hx hb dX10_flight_42 (by decide) (fun c31 => ?_) (fun c31 => ?_)
      · skip
        have tc31 := nu_le c31
        refine lv_aload_n hx hb dX10_flight_75 rfl (lv_at hl_34 0 rfl) ?_
        refine lv_iload_n hx hb dX10_flight_76 rfl (lv_at hl_34 2 rfl) ?_
        obtain ⟨v32, ev32, tv32⟩ : ∃ v : Int32, Int32.ofInt (0) = v ∧ v.toInt = 0 := ⟨_, rfl, by decide +kernel⟩
        refine lv_iconst hx hb dX10_flight_77 ev32 ?_
        obtain ⟨v33, ev33, tv33⟩ : ∃ v : Int32, (Int8.ofInt (20)).toInt32 = v ∧ v.toInt = 20 := ⟨_, rfl, by decide +kernel⟩
        refine lv_bipush hx hb dX10_flight_78 ev33 ?_
        refine tc_vi Z.1 Z.2.2.2.1 Z.2.2.2.2.1 Z.2.2.2.2.2 S_34.1 S_34.2 ha0 ta0 rfl rfl (k_X10_in l D cy S_34.2 ha0 ta0 a2 v32 v33) (cwV 3 hts gX10_flight_X10_in rfl rfl rfl (by decide +kernel) ⟨Nat.le_of_ble_eq_true rfl, Nat.le_of_ble_eq_true rfl⟩) rfl hl_34.1 rfl (Nat.le_of_ble_eq_true rfl) dX10_flight_80 ⟨Nat.zero_le _, Nat.zero_le _⟩ (fun v37 E34 H35 k36 W34 I34 G34 p34 => ?_)
        obtain ⟨q34, p34_0, p34_1, p34_2⟩ := p34
        have q34 := q34.symm
        subst q34
        have S34 : Now D TB cy (va_A (va_pl L E) sz) s L τ E_34 H35 k36 := ⟨W34, I34⟩
        refine lv_if_eq (tgt := 103) hx hb dX10_flight_83 (by decide) (fun c38 => ?_) (fun c38 => ?_)
        · skip
          have tc38 := nu_eq c38
          have uc38 : (0 : Int32).toInt = 0 := rfl
          exact J103 E_34 H35 k36 l_34 S34 F_34 z12 (fun k hk => (z13 k hk)) (lv_sub hl_34 [0] rfl)
        · skip
          have tc38 := nu_ne c38
          have uc38 : (0 : Int32).toInt = 0 := rfl
          refine lv_aload_n hx hb dX10_flight_86 rfl (lv_at hl_34 0 rfl) ?_
          refine lv_iload_n hx hb dX10_flight_87 rfl (lv_at hl_34 3 rfl) ?_
          obtain ⟨v39, ev39, tv39⟩ : ∃ v : Int32, Int32.ofInt (0) = v ∧ v.toInt = 0 := ⟨_, rfl, by decide +kernel⟩
          refine lv_iconst hx hb dX10_flight_88 ev39 ?_
          obtain ⟨v40, ev40, tv40⟩ : ∃ v : Int32, (Int16.ofInt (6000)).toInt32 = v ∧ v.toInt = 6000 := ⟨_, rfl, by decide +kernel⟩
          refine lv_sipush hx hb dX10_flight_89 ev40 ?_
          refine tc_vi Z.1 Z.2.2.2.1 Z.2.2.2.2.1 Z.2.2.2.2.2 S34.1 S34.2 ha0 ta0 rfl rfl (k_X10_in l D cy S34.2 ha0 ta0 a3 v39 v40) (cwV 3 hts gX10_flight_X10_in rfl rfl rfl (by decide +kernel) ⟨Nat.le_of_ble_eq_true rfl, Nat.le_of_ble_eq_true rfl⟩) rfl hl_34.1 rfl (Nat.le_of_ble_eq_true rfl) dX10_flight_92 ⟨Nat.zero_le _, Nat.zero_le _⟩ (fun v44 E41 H42 k43 W41 I41 G41 p41 => ?_)
          obtain ⟨q41, p41_0, p41_1, p41_2⟩ := p41
          have q41 := q41.symm
          subst q41
          have S41 : Now D TB cy (va_A (va_pl L E) sz) s L τ E_34 H42 k43 := ⟨W41, I41⟩
          refine lv_if_eq (tgt := 103) hx hb dX10_flight_95 (by decide) (fun c45 => ?_) (fun c45 => ?_)
          · skip
            have tc45 := nu_eq c45
            have uc45 : (0 : Int32).toInt = 0 := rfl
            exact J103 E_34 H42 k43 l_34 S41 F_34 z12 (fun k hk => (z13 k hk)) (lv_sub hl_34 [0] rfl)
          · skip
            have tc45 := nu_ne c45
            have uc45 : (0 : Int32).toInt = 0 := rfl
            refine lv_iload hx hb dX10_flight_98 (lv_at hl_34 4 rfl) ?_
            refine lv_if_ne (tgt := 109) hx hb dX10_flight_100 (by decide) (fun c46 => ?_) (fun c46 => ?_)
            · skip
              have tc46 := nu_ne c46
              have uc46 : (0 : Int32).toInt = 0 := rfl
              refine lv_aload_n hx hb dX10_flight_109 rfl (lv_at hl_34 0 rfl) ?_
              refine tc_vv Z.1 Z.2.2.2.1 Z.2.2.2.2.1 Z.2.2.2.2.2 S41.1 S41.2 ha0 ta0 rfl rfl (k_X10_act l D cy S41.2 ha0 ta0 z12) (cwV 0 hts gX10_flight_X10_act rfl rfl rfl (by decide +kernel) ⟨Nat.le_of_ble_eq_true rfl, Nat.le_of_ble_eq_true rfl⟩) rfl hl_34.1 rfl (Nat.le_of_ble_eq_true rfl) dX10_flight_110 ⟨Nat.zero_le _, Nat.zero_le _⟩ (fun E47 H48 k49 W47 I47 G47 p47 => ?_)
              obtain ⟨p47_0, p47_1⟩ := p47
              have S47 : Now D TB cy (va_A (va_pl L E) sz) s L τ E47 H48 k49 := ⟨W47, I47⟩
              have F47 : Fr L τ (inW [(11, 0), (60, 0), (61, 0)]) E E47 := F_34.trans (G47.mono (inW_mono (by decide)))
              have C51 : ∀ T : Nat → Int32, Link (ai E_34 qn) T → ChW E47 a0 qp T := fun T hT => p47_0 qn hqn tqn qp hqp tqp T hT
              have B52 : ∀ j : Nat, 44 ≤ j → j ≤ 52 → ai E47 qn j = ai E_34 qn j := fun j _ _ => (ai_fr G47 hqn (by rw [tqn]; rfl))
              refine lv_aload_n hx hb dX10_flight_113 rfl (lv_at hl_34 0 rfl) ?_
              refine tr_getr Z.1 Z.2.2.2.1 S47.1 S47.2 ha0 ta0 rfl rfl (fun _ h => List.mem_cons_of_mem _ (List.mem_append_right _ h)) 0 (by decide) rfl (hts _ (List.mem_of_getElem? (i := 2) rfl)) dX10_flight_114 (fun q53 eq53 hq53 tq53 => ?_)
              have tq53 : τ q53 = (60, 0) := tq53
              have uq53 : qn = q53 := S47.2.2.2.2 _ hqn _ hq53 (tqn.trans tq53.symm) (by rw [tqn]; rfl)
              subst uq53
              obtain ⟨v54, ev54, tv54⟩ : ∃ v : Int32, Int32.ofInt (5) = v ∧ v.toInt = 5 := ⟨_, rfl, by decide +kernel⟩
              refine lv_iconst hx hb dX10_flight_117 ev54 ?_
              refine lv_iload_n hx hb dX10_flight_118 rfl (lv_at hl_34 1 rfl) ?_
              refine lv_iadd hx hb dX10_flight_119 ?_
              refine lv_topi (fun v55 ev55 => ?_)
              have tv55 := nu_add ev55 (by omega) (by omega)
              refine lv_iload_n hx hb dX10_flight_120 rfl (lv_at hl_34 2 rfl) ?_
              have b56 : nowB v55.toNatClampNeg = (0, 20) := nb_5 (by show 5 ≤ v55.toInt.toNat ∧ v55.toInt.toNat ≤ 7; omega)
              have b56 : (nowB v55.toNatClampNeg).1 ≤ a2.toInt ∧ a2.toInt ≤ (nowB v55.toNatClampNeg).2 := by rw [b56]; have := fb_rng a2; show 0 ≤ a2.toInt ∧ a2.toInt ≤ 20; omega
              refine tr_iastx Z.1 Z.2.2.2.1 S47.1 S47.2 hqn tqn rfl (by omega) (by omega) b56.1 b56.2 dX10_flight_121 (fun E56 H57 k58 W56 I56 P56 => ?_)
              have S56 : Now D TB cy (va_A (va_pl L E) sz) s L τ E56 H57 k58 := ⟨W56, I56⟩
              have F56 : Fr L τ (inW [(11, 0), (60, 0), (61, 0)]) E E56 := Fr.set F47 P56 tqn rfl
              refine lv_aload_n hx hb dX10_flight_122 rfl (lv_at hl_34 0 rfl) ?_
              refine tr_getr Z.1 Z.2.2.2.1 S56.1 S56.2 ha0 ta0 rfl rfl (fun _ h => List.mem_cons_of_mem _ (List.mem_append_right _ h)) 0 (by decide) rfl (hts _ (List.mem_of_getElem? (i := 2) rfl)) dX10_flight_123 (fun q59 eq59 hq59 tq59 => ?_)
              have tq59 : τ q59 = (60, 0) := tq59
              have uq59 : qn = q59 := S56.2.2.2.2 _ hqn _ hq59 (tqn.trans tq59.symm) (by rw [tqn]; rfl)
              subst uq59
              obtain ⟨v60, ev60, tv60⟩ : ∃ v : Int32, (Int8.ofInt (8)).toInt32 = v ∧ v.toInt = 8 := ⟨_, rfl, by decide +kernel⟩
              refine lv_bipush hx hb dX10_flight_126 ev60 ?_
              refine lv_iload_n hx hb dX10_flight_128 rfl (lv_at hl_34 1 rfl) ?_
              refine lv_iadd hx hb dX10_flight_129 ?_
              refine lv_topi (fun v61 ev61 => ?_)
              have tv61 := nu_add ev61 (by omega) (by omega)
              refine lv_iload_n hx hb dX10_flight_130 rfl (lv_at hl_34 3 rfl) ?_
              have b62 : nowB v61.toNatClampNeg = (-2147483648, 2147483647) := nb_o (by show v61.toInt.toNat < 4 ∨ (8 ≤ v61.toInt.toNat ∧ v61.toInt.toNat ≤ 18) ∨ (20 ≤ v61.toInt.toNat ∧ v61.toInt.toNat ≤ 43); omega)
              have b62 : (nowB v61.toNatClampNeg).1 ≤ a3.toInt ∧ a3.toInt ≤ (nowB v61.toNatClampNeg).2 := by rw [b62]; have := fb_rng a3; show -2147483648 ≤ a3.toInt ∧ a3.toInt ≤ 2147483647; omega
              refine tr_iastx Z.1 Z.2.2.2.1 S56.1 S56.2 hqn tqn rfl (by omega) (by omega) b62.1 b62.2 dX10_flight_131 (fun E62 H63 k64 W62 I62 P62 => ?_)
              have S62 : Now D TB cy (va_A (va_pl L E) sz) s L τ E62 H63 k64 := ⟨W62, I62⟩
              have F62 : Fr L τ (inW [(11, 0), (60, 0), (61, 0)]) E E62 := Fr.set F56 P62 tqn rfl
              obtain ⟨v65, ev65, tv65⟩ : ∃ v : Int32, Int32.ofInt (1) = v ∧ v.toInt = 1 := ⟨_, rfl, by decide +kernel⟩
              refine lv_iconst hx hb dX10_flight_132 ev65 ?_
              rw [← hQ]
              exact en_z Z S62 F62 (zo v65 (by omega)) ⟨(by omega), (by omega), (fun k hk => ((fi_set P62 (ne_ro ta0 tqn (by decide))).trans ((fi_set P56 (ne_ro ta0 tqn (by decide))).trans ((p47_1 k (fw_sub (by decide) hk)).trans (z13 k hk))))), (Chain.post C51 S62.2 ha0 ta0 hqn tqn hqp tqp ((P62.1 qp (ne_ro tqp tqn (by decide))).trans (P56.1 qp (ne_ro tqp tqn (by decide)))) ((fi_set P62 (ne_ro ta0 tqn (by decide))).trans (fi_set P56 (ne_ro ta0 tqn (by decide)))) (Link.ag (fun j h1 h2 => ((ai_setk P62 (by show j ≠ v61.toInt.toNat; omega)).trans ((ai_setk P56 (by show j ≠ v55.toInt.toNat; omega)).trans (B52 j h1 h2))))))⟩ dX10_flight_133
            · skip
              have tc46 := nu_eq c46
              have uc46 : (0 : Int32).toInt = 0 := rfl
              exact J103 E_34 H42 k43 l_34 S41 F_34 z12 (fun k hk => (z13 k hk)) (lv_sub hl_34 [0] rfl)
      · skip
        have tc31 := nu_nle c31
        refine lv_iload hx hb dX10_flight_45 (lv_at hl_34 4 rfl) ?_
        refine lv_iload hx hb dX10_flight_47 (lv_at hl_34 5 rfl) ?_
        refine lv_iload_n hx hb dX10_flight_49 rfl (lv_at hl_34 1 rfl) ?_
        refine lv_icmp_ne (tgt := 57) hx hb dX10_flight_50 (by decide) (fun c66 => ?_) (fun c66 => ?_)
        · skip
          have tc66 := nu_ne c66
          refine lv_aload_n hx hb dX10_flight_57 rfl (lv_at hl_34 0 rfl) ?_
          refine tr_getr Z.1 Z.2.2.2.1 S_34.1 S_34.2 ha0 ta0 rfl rfl (fun _ h => List.mem_cons_of_mem _ (List.mem_append_right _ h)) 0 (by decide) rfl (hts _ (List.mem_of_getElem? (i := 2) rfl)) dX10_flight_58 (fun q67 eq67 hq67 tq67 => ?_)
          have tq67 : τ q67 = (60, 0) := tq67
          have uq67 : qn = q67 := S_34.2.2.2.2 _ hqn _ hq67 (tqn.trans tq67.symm) (by rw [tqn]; rfl)
          subst uq67
          obtain ⟨v68, ev68, tv68⟩ : ∃ v : Int32, Int32.ofInt (5) = v ∧ v.toInt = 5 := ⟨_, rfl, by decide +kernel⟩
          refine lv_iconst hx hb dX10_flight_61 ev68 ?_
          refine lv_iload hx hb dX10_flight_62 (lv_at hl_34 5 rfl) ?_
          refine lv_iadd hx hb dX10_flight_64 ?_
          refine lv_topi (fun v69 ev69 => ?_)
          have tv69 := nu_add ev69 (by omega) (by omega)
          refine tr_ialdx Z.1 Z.2.2.2.1 S_34.1 S_34.2 hqn tqn rfl (by omega) (by omega) dX10_flight_65 (fun v70 ev70 lv70 uv70 => ?_)
          have bv70 : nowB v69.toNatClampNeg = (0, 20) := nb_5 (by show 5 ≤ v69.toInt.toNat ∧ v69.toInt.toNat ≤ 7; omega)
          rw [bv70] at lv70 uv70
          have lv70 : 0 ≤ v70.toInt := lv70
          have uv70 : v70.toInt ≤ 20 := uv70
          exact J66 x4_34 v70 E_34 H_34 k_34 l_34 S_34 F_34 (by have := fb_rng a2; have := fb_rng a3; have := fb_rng x4_34; omega) (by have := fb_rng a2; have := fb_rng a3; have := fb_rng x4_34; omega) (by have := fb_rng a2; have := fb_rng a3; have := fb_rng x4_34; omega) (by have := fb_rng a2; have := fb_rng a3; have := fb_rng x4_34; omega) (by have := fb_rng a2; have := fb_rng a3; have := fb_rng x4_34; omega) (by have := fb_rng a2; have := fb_rng a3; have := fb_rng x4_34; omega) z12 (fun k hk => (z13 k hk)) (lv_sub hl_34 [0, 1, 2, 3, 5] rfl)
        · skip
          have tc66 := nu_eq c66
          obtain ⟨v71, ev71, tv71⟩ : ∃ v : Int32, Int32.ofInt (0) = v ∧ v.toInt = 0 := ⟨_, rfl, by decide +kernel⟩
          refine lv_iconst hx hb dX10_flight_53 ev71 ?_
          refine lv_goto (tgt := 66) hx hb dX10_flight_54 (by decide) ?_
          exact J66 x4_34 v71 E_34 H_34 k_34 l_34 S_34 F_34 (by have := fb_rng a2; have := fb_rng a3; have := fb_rng x4_34; omega) (by have := fb_rng a2; have := fb_rng a3; have := fb_rng x4_34; omega) (by have := fb_rng a2; have := fb_rng a3; have := fb_rng x4_34; omega) (by have := fb_rng a2; have := fb_rng a3; have := fb_rng x4_34; omega) (by have := fb_rng a2; have := fb_rng a3; have := fb_rng x4_34; omega) (by have := fb_rng a2; have := fb_rng a3; have := fb_rng x4_34; omega) z12 (fun k hk => (z13 k hk)) (lv_sub hl_34 [0, 1, 2, 3, 5] rfl)
  refine lv_aload_n hx hb dX10_flight_0 rfl (lv_at hl 0 rfl) ?_
  obtain ⟨v72, ev72, tv72⟩ : ∃ v : Int32, Int32.ofInt (0) = v ∧ v.toInt = 0 := ⟨_, rfl, by decide +kernel⟩
  refine lv_iconst hx hb dX10_flight_1 ev72 ?_
  refine tr_puti Z.1 Z.2.2.2.1 S0.1 S0.2 ha0 ta0 rfl rfl (fun _ h => List.mem_cons_of_mem _ (List.mem_append_right _ h)) tyX10_ok nmX10 4 (by decide) rfl rfl rfl (hts _ (List.mem_of_getElem? (i := 1) rfl)) dX10_flight_2 (by omega) (by omega) (fun E73 H74 k75 W73 I73 P73 => ?_)
  have S73 : Now D TB cy (va_A (va_pl L E) sz) s L τ E73 H74 k75 := ⟨W73, I73⟩
  have F73 : Fr L τ (inW [(11, 0), (60, 0), (61, 0)]) E E73 := Fr.put F0_ P73 ta0 rfl
  refine lv_aload_n hx hb dX10_flight_5 rfl (lv_at hl 0 rfl) ?_
  refine lv_iload_n hx hb dX10_flight_6 rfl (lv_at hl 1 rfl) ?_
  obtain ⟨v76, ev76, tv76⟩ : ∃ v : Int32, Int32.ofInt (0) = v ∧ v.toInt = 0 := ⟨_, rfl, by decide +kernel⟩
  refine lv_iconst hx hb dX10_flight_7 ev76 ?_
  refine lv_aload_n hx hb dX10_flight_8 rfl (lv_at hl 0 rfl) ?_
  refine tr_getr Z.1 Z.2.2.2.1 S73.1 S73.2 ha0 ta0 rfl rfl (fun _ h => List.mem_cons_of_mem _ (List.mem_append_right _ h)) 0 (by decide) rfl (hts _ (List.mem_of_getElem? (i := 2) rfl)) dX10_flight_9 (fun q77 eq77 hq77 tq77 => ?_)
  have tq77 : τ q77 = (60, 0) := tq77
  have uq77 : qn = q77 := S73.2.2.2.2 _ hqn _ hq77 (tqn.trans tq77.symm) (by rw [tqn]; rfl)
  subst uq77
  obtain ⟨v78, ev78, tv78⟩ : ∃ v : Int32, Int32.ofInt (4) = v ∧ v.toInt = 4 := ⟨_, rfl, by decide +kernel⟩
  refine lv_iconst hx hb dX10_flight_12 ev78 ?_
  refine tr_ialdx Z.1 Z.2.2.2.1 S73.1 S73.2 hqn tqn rfl (by omega) (by omega) dX10_flight_13 (fun v79 ev79 lv79 uv79 => ?_)
  have bv79 : nowB v78.toNatClampNeg = (0, 3) := nb_4 (by show v78.toInt.toNat = 4; omega)
  rw [bv79] at lv79 uv79
  have lv79 : 0 ≤ v79.toInt := lv79
  have uv79 : v79.toInt ≤ 3 := uv79
  have av79 : ai E73 qn 4 = v79 := ai_at ev79 (by omega)
  obtain ⟨v80, ev80, tv80⟩ : ∃ v : Int32, Int32.ofInt (1) = v ∧ v.toInt = 1 := ⟨_, rfl, by decide +kernel⟩
  refine lv_iconst hx hb dX10_flight_14 ev80 ?_
  refine lv_isub hx hb dX10_flight_15 ?_
  refine lv_topi (fun v81 ev81 => ?_)
  have tv81 := nu_sub ev81 (by omega) (by omega)
  refine tc_vi Z.1 Z.2.2.2.1 Z.2.2.2.2.1 Z.2.2.2.2.2 S73.1 S73.2 ha0 ta0 rfl rfl (k_X10_in l D cy S73.2 ha0 ta0 a1 v76 v81) (cwV 3 hts gX10_flight_X10_in rfl rfl rfl (by decide +kernel) ⟨Nat.le_of_ble_eq_true rfl, Nat.le_of_ble_eq_true rfl⟩) rfl hl.1 rfl (Nat.le_of_ble_eq_true rfl) dX10_flight_16 ⟨Nat.zero_le _, Nat.zero_le _⟩ (fun v85 E82 H83 k84 W82 I82 G82 p82 => ?_)
  obtain ⟨q82, p82_0, p82_1, p82_2⟩ := p82
  have q82 := q82.symm
  subst q82
  have S82 : Now D TB cy (va_A (va_pl L E) sz) s L τ E73 H83 k84 := ⟨W82, I82⟩
  refine lv_if_ne (tgt := 28) hx hb dX10_flight_19 (by decide) (fun c86 => ?_) (fun c86 => ?_)
  · skip
    have tc86 := nu_ne c86
    have uc86 : (0 : Int32).toInt = 0 := rfl
    refine lv_iload_n hx hb dX10_flight_28 rfl (lv_at hl 2 rfl) ?_
    refine lv_istore (lv' := [(4, .int a2), (0, .ref a0), (1, .int a1), (2, .int a2), (3, .int a3)]) hx hb dX10_flight_29 hl (by decide) rfl (fun l87 hl88 => ?_)
    obtain ⟨v89, ev89, tv89⟩ : ∃ v : Int32, Int32.ofInt (0) = v ∧ v.toInt = 0 := ⟨_, rfl, by decide +kernel⟩
    refine lv_iconst hx hb dX10_flight_31 ev89 ?_
    refine lv_istore (lv' := [(5, .int v89), (4, .int a2), (0, .ref a0), (1, .int a1), (2, .int a2), (3, .int a3)]) hx hb dX10_flight_32 hl88 (by decide) rfl (fun l90 hl91 => ?_)
    exact J34 _ a2 v89 E73 H83 k84 l90 S82 F73 (by have := fb_rng a2; have := fb_rng a2; have := fb_rng a3; omega) (by have := fb_rng a2; have := fb_rng a2; have := fb_rng a3; omega) (by have := fb_rng a2; have := fb_rng a2; have := fb_rng a3; omega) (by have := fb_rng a2; have := fb_rng a2; have := fb_rng a3; omega) (Chain.same hC S82.2 ha0 ta0 hqn tqn hqp tqp (P73.1 qn (ne_ro tqn ta0 (by decide))) (P73.1 qp (ne_ro tqp ta0 (by decide))) (fi_put P73 (Or.inr (by decide)))) (fun k hk => ((fi_put P73 (Or.inr (fw_ne (by decide) hk))).trans ((fun k hk => rfl) k hk))) (Nat.lt_succ_self _) (lv_sub hl91 [2, 3, 4, 5, 1, 0] rfl)
  · skip
    have tc86 := nu_eq c86
    have uc86 : (0 : Int32).toInt = 0 := rfl
    refine lv_aload_n hx hb dX10_flight_22 rfl (lv_at hl 0 rfl) ?_
    obtain ⟨v92, ev92, tv92⟩ : ∃ v : Int32, Int32.ofInt (4) = v ∧ v.toInt = 4 := ⟨_, rfl, by decide +kernel⟩
    refine lv_iconst hx hb dX10_flight_23 ev92 ?_
    refine tc_vi Z.1 Z.2.2.2.1 Z.2.2.2.2.1 Z.2.2.2.2.2 S82.1 S82.2 ha0 ta0 rfl rfl (k_X10_not l D cy S82.2 ha0 ta0 v92) (cwV 1 hts gX10_flight_X10_not rfl rfl rfl (by decide +kernel) ⟨Nat.le_of_ble_eq_true rfl, Nat.le_of_ble_eq_true rfl⟩) rfl hl.1 rfl (Nat.le_of_ble_eq_true rfl) dX10_flight_24 ⟨Nat.zero_le _, Nat.zero_le _⟩ (fun v96 E93 H94 k95 W93 I93 G93 p93 => ?_)
    obtain ⟨p93_0, p93_1, p93_2⟩ := p93
    have S93 : Now D TB cy (va_A (va_pl L E) sz) s L τ E93 H94 k95 := ⟨W93, I93⟩
    have F93 : Fr L τ (inW [(11, 0), (60, 0), (61, 0)]) E E93 := F73.trans (G93.mono (inW_mono (by decide)))
    rw [← hQ]
    exact en_z Z S93 F93 (zo v96 (by omega)) ⟨(by omega), (by omega), (fun k hk => ((p93_2 k (fw_sub (by decide) hk)).trans ((fi_put P73 (Or.inr (fw_ne (by decide) hk))).trans ((fun k hk => rfl) k hk)))), (Chain.same hC S93.2 ha0 ta0 hqn tqn hqp tqp ((G93 qn hqn (by rw [tqn]; rfl)).trans (P73.1 qn (ne_ro tqn ta0 (by decide)))) ((G93 qp hqp (by rw [tqp]; rfl)).trans (P73.1 qp (ne_ro tqp ta0 (by decide)))) ((p93_2 2 (by decide)).trans (fi_put P73 (Or.inr (by decide)))))⟩ dX10_flight_27

set_option maxRecDepth 20000 in
theorem ggX10_clear_X10_act : GoodIn wsX10_clear wsX10_act := goodIn_r _ [9, 10, 11, 2, 12, 13, 14, 8, 15, 3, 4, 16, 17, 18, 19, 20, 21, 22, 23, 24, 25, 26, 27, 28, 29, 30, 31, 32, 33, 34, 35, 36, 37, 38, 39, 40, 41, 42, 43, 44, 45, 46, 47, 48, 49, 50, 51, 52, 53, 54, 55, 56, 57, 58, 59, 60, 61, 62, 63] (by decide +kernel) (by decide +kernel)
set_option maxRecDepth 20000 in
theorem gX10_clear_X10_act : GoodIn wsX10_clear (wsV RX10 131 RX10 yX10_act wsX10_act) := goodIn_app (goodIn_of _ (by decide +kernel)) ggX10_clear_X10_act
theorem dX10_clear_0 : decode cX10_clear 0 = .ok (.aload_n 0, 1) := by decide +kernel
theorem dX10_clear_1 : decode cX10_clear 1 = .ok (.iconst 0, 1) := by decide +kernel
theorem dX10_clear_2 : decode cX10_clear 2 = .ok (.putfield 97, 3) := by decide +kernel
theorem dX10_clear_5 : decode cX10_clear 5 = .ok (.aload_n 0, 1) := by decide +kernel
theorem dX10_clear_6 : decode cX10_clear 6 = .ok (.getfield 7, 3) := by decide +kernel
theorem dX10_clear_9 : decode cX10_clear 9 = .ok (.bipush 19, 2) := by decide +kernel
theorem dX10_clear_11 : decode cX10_clear 11 = .ok (.iaload, 1) := by decide +kernel
theorem dX10_clear_12 : decode cX10_clear 12 = .ok (.istore_n 1, 1) := by decide +kernel
theorem dX10_clear_13 : decode cX10_clear 13 = .ok (.iload_n 1, 1) := by decide +kernel
theorem dX10_clear_14 : decode cX10_clear 14 = .ok (.ifCond .ne 5, 3) := by decide +kernel
theorem dX10_clear_17 : decode cX10_clear 17 = .ok (.iconst 0, 1) := by decide +kernel
theorem dX10_clear_18 : decode cX10_clear 18 = .ok (.ireturn, 1) := by decide +kernel
theorem dX10_clear_19 : decode cX10_clear 19 = .ok (.aload_n 0, 1) := by decide +kernel
theorem dX10_clear_20 : decode cX10_clear 20 = .ok (.getfield 100, 3) := by decide +kernel
theorem dX10_clear_23 : decode cX10_clear 23 = .ok (.istore_n 2, 1) := by decide +kernel
theorem dX10_clear_24 : decode cX10_clear 24 = .ok (.aload_n 0, 1) := by decide +kernel
theorem dX10_clear_25 : decode cX10_clear 25 = .ok (.getfield 16, 3) := by decide +kernel
theorem dX10_clear_28 : decode cX10_clear 28 = .ok (.istore_n 3, 1) := by decide +kernel
theorem dX10_clear_29 : decode cX10_clear 29 = .ok (.aload_n 0, 1) := by decide +kernel
theorem dX10_clear_30 : decode cX10_clear 30 = .ok (.invokevirtual 131, 3) := by decide +kernel
theorem dX10_clear_33 : decode cX10_clear 33 = .ok (.aload_n 0, 1) := by decide +kernel
theorem dX10_clear_34 : decode cX10_clear 34 = .ok (.iload_n 2, 1) := by decide +kernel
theorem dX10_clear_35 : decode cX10_clear 35 = .ok (.putfield 100, 3) := by decide +kernel
theorem dX10_clear_38 : decode cX10_clear 38 = .ok (.aload_n 0, 1) := by decide +kernel
theorem dX10_clear_39 : decode cX10_clear 39 = .ok (.iload_n 3, 1) := by decide +kernel
theorem dX10_clear_40 : decode cX10_clear 40 = .ok (.putfield 16, 3) := by decide +kernel
theorem dX10_clear_43 : decode cX10_clear 43 = .ok (.aload_n 0, 1) := by decide +kernel
theorem dX10_clear_44 : decode cX10_clear 44 = .ok (.getfield 7, 3) := by decide +kernel
theorem dX10_clear_47 : decode cX10_clear 47 = .ok (.bipush 19, 2) := by decide +kernel
theorem dX10_clear_49 : decode cX10_clear 49 = .ok (.iconst 0, 1) := by decide +kernel
theorem dX10_clear_50 : decode cX10_clear 50 = .ok (.iastore, 1) := by decide +kernel
theorem dX10_clear_51 : decode cX10_clear 51 = .ok (.iload_n 1, 1) := by decide +kernel
theorem dX10_clear_52 : decode cX10_clear 52 = .ok (.ireturn, 1) := by decide +kernel
set_option maxHeartbeats 4000000 in
set_option maxRecDepth 100000 in
theorem k_X10_clear (l : Launch) (D : va_G) (cy : Nat → ClassId) {L : List Nat} {τ : Nat → Ro} {E : Ec} (hI : Inv TB cy L τ E) {a0 : Nat} (ha0 : a0 ∈ L) (ta0 : τ a0 = (11, 0)) (hC : Chain L τ E) : CtI l yX10_clear wsX10_clear { frames := 2, cells := 0, slots := 0, locals := 41 } D TB cy L τ E [.ref a0] (inW [(11, 0), (60, 0), (61, 0)]) (fun r E' => (∀ k : Nat, k ∉ ([2, 3, 4, 6] : List Nat) → fi E' a0 k = fi E a0 k) ∧ Chain L τ E') := by
  intro sz
  refine sta (cc := cX10_clear) (maxL := 4) hI (by decide) rfl (Nat.le_of_ble_eq_true rfl) (fun p e s m args below meth c ls hsz Z S0 hl => ?_)
  have hx := Z.1.1
  have hb := Z.1.2.1
  have hts := Z.1.2.2.2.2
  have F0_ : Fr L τ (inW [(11, 0), (60, 0), (61, 0)]) E E := Fr.refl
  have hl : lv_has ls 4 [(0, .ref a0)] := hl
  generalize hQ : MQ below _ args s 0 0 _ = QQ
  obtain ⟨qn, hqn, tqn⟩ := ref_of (k := 0) hI ha0 ta0 rfl rfl
  have tqn : τ qn = (60, 0) := tqn
  obtain ⟨qp, hqp, tqp⟩ := ref_of (k := 1) hI ha0 ta0 rfl rfl
  have tqp : τ qp = (61, 0) := tqp
  refine lv_aload_n hx hb dX10_clear_0 rfl (lv_at hl 0 rfl) ?_
  obtain ⟨v1, ev1, tv1⟩ : ∃ v : Int32, Int32.ofInt (0) = v ∧ v.toInt = 0 := ⟨_, rfl, by decide +kernel⟩
  refine lv_iconst hx hb dX10_clear_1 ev1 ?_
  refine tr_puti Z.1 Z.2.2.2.1 S0.1 S0.2 ha0 ta0 rfl rfl (fun _ h => List.mem_cons_of_mem _ (List.mem_append_right _ h)) tyX10_ok nmX10 4 (by decide) rfl rfl rfl (hts _ (List.mem_of_getElem? (i := 1) rfl)) dX10_clear_2 (by omega) (by omega) (fun E2 H3 k4 W2 I2 P2 => ?_)
  have S2 : Now D TB cy (va_A (va_pl L E) sz) s L τ E2 H3 k4 := ⟨W2, I2⟩
  have F2 : Fr L τ (inW [(11, 0), (60, 0), (61, 0)]) E E2 := Fr.put F0_ P2 ta0 rfl
  refine lv_aload_n hx hb dX10_clear_5 rfl (lv_at hl 0 rfl) ?_
  refine tr_getr Z.1 Z.2.2.2.1 S2.1 S2.2 ha0 ta0 rfl rfl (fun _ h => List.mem_cons_of_mem _ (List.mem_append_right _ h)) 0 (by decide) rfl (hts _ (List.mem_of_getElem? (i := 2) rfl)) dX10_clear_6 (fun q5 eq5 hq5 tq5 => ?_)
  have tq5 : τ q5 = (60, 0) := tq5
  have uq5 : qn = q5 := S2.2.2.2.2 _ hqn _ hq5 (tqn.trans tq5.symm) (by rw [tqn]; rfl)
  subst uq5
  obtain ⟨v6, ev6, tv6⟩ : ∃ v : Int32, (Int8.ofInt (19)).toInt32 = v ∧ v.toInt = 19 := ⟨_, rfl, by decide +kernel⟩
  refine lv_bipush hx hb dX10_clear_9 ev6 ?_
  refine tr_ialdx Z.1 Z.2.2.2.1 S2.1 S2.2 hqn tqn rfl (by omega) (by omega) dX10_clear_11 (fun v7 ev7 lv7 uv7 => ?_)
  have bv7 : nowB v6.toNatClampNeg = (0, 8) := nb_19 (by show v6.toInt.toNat = 19; omega)
  rw [bv7] at lv7 uv7
  have lv7 : 0 ≤ v7.toInt := lv7
  have uv7 : v7.toInt ≤ 8 := uv7
  have av7 : ai E2 qn 19 = v7 := ai_at ev7 (by omega)
  refine lv_istore_n (lv' := [(1, .int v7), (0, .ref a0)]) hx hb dX10_clear_12 rfl hl (by decide) rfl (fun l8 hl9 => ?_)
  refine lv_iload_n hx hb dX10_clear_13 rfl (lv_at hl9 0 rfl) ?_
  refine lv_if_ne (tgt := 19) hx hb dX10_clear_14 (by decide) (fun c10 => ?_) (fun c10 => ?_)
  · skip
    have tc10 := nu_ne c10
    have uc10 : (0 : Int32).toInt = 0 := rfl
    refine lv_aload_n hx hb dX10_clear_19 rfl (lv_at hl9 1 rfl) ?_
    refine tr_geti Z.1 Z.2.2.2.1 S2.1 S2.2 ha0 ta0 rfl rfl (fun _ h => List.mem_cons_of_mem _ (List.mem_append_right _ h)) 3 (by decide) rfl (hts _ (List.mem_of_getElem? (i := 3) rfl)) dX10_clear_20 (fun v11 ev11 lv11 uv11 => ?_)
    refine lv_istore_n (lv' := [(2, .int v11), (1, .int v7), (0, .ref a0)]) hx hb dX10_clear_23 rfl hl9 (by decide) rfl (fun l12 hl13 => ?_)
    refine lv_aload_n hx hb dX10_clear_24 rfl (lv_at hl13 2 rfl) ?_
    refine tr_geti Z.1 Z.2.2.2.1 S2.1 S2.2 ha0 ta0 rfl rfl (fun _ h => List.mem_cons_of_mem _ (List.mem_append_right _ h)) 6 (by decide) rfl (hts _ (List.mem_of_getElem? (i := 4) rfl)) dX10_clear_25 (fun v14 ev14 lv14 uv14 => ?_)
    refine lv_istore_n (lv' := [(3, .int v14), (2, .int v11), (1, .int v7), (0, .ref a0)]) hx hb dX10_clear_28 rfl hl13 (by decide) rfl (fun l15 hl16 => ?_)
    refine lv_aload_n hx hb dX10_clear_29 rfl (lv_at hl16 3 rfl) ?_
    refine tc_vv Z.1 Z.2.2.2.1 Z.2.2.2.2.1 Z.2.2.2.2.2 S2.1 S2.2 ha0 ta0 rfl rfl (k_X10_act l D cy S2.2 ha0 ta0 (Chain.same hC S2.2 ha0 ta0 hqn tqn hqp tqp (P2.1 qn (ne_ro tqn ta0 (by decide))) (P2.1 qp (ne_ro tqp ta0 (by decide))) (fi_put P2 (Or.inr (by decide))))) (cwV 0 hts gX10_clear_X10_act rfl rfl rfl (by decide +kernel) ⟨Nat.le_of_ble_eq_true rfl, Nat.le_of_ble_eq_true rfl⟩) rfl hl16.1 rfl (Nat.le_of_ble_eq_true rfl) dX10_clear_30 ⟨Nat.zero_le _, Nat.zero_le _⟩ (fun E17 H18 k19 W17 I17 G17 p17 => ?_)
    obtain ⟨p17_0, p17_1⟩ := p17
    have S17 : Now D TB cy (va_A (va_pl L E) sz) s L τ E17 H18 k19 := ⟨W17, I17⟩
    have F17 : Fr L τ (inW [(11, 0), (60, 0), (61, 0)]) E E17 := F2.trans (G17.mono (inW_mono (by decide)))
    have C21 : ∀ T : Nat → Int32, Link (ai E qn) T → ChW E17 a0 qp T := fun T hT => p17_0 qn hqn tqn qp hqp tqp T (by rw [ai_cell (P2.1 qn (ne_ro tqn ta0 (by decide)))]; exact hT)
    have B22 : ∀ j : Nat, 44 ≤ j → j ≤ 52 → ai E17 qn j = ai E qn j := fun j _ _ => ((ai_fr G17 hqn (by rw [tqn]; rfl)).trans (ai_put P2 (ne_ro tqn ta0 (by decide))))
    refine lv_aload_n hx hb dX10_clear_33 rfl (lv_at hl16 3 rfl) ?_
    refine lv_iload_n hx hb dX10_clear_34 rfl (lv_at hl16 1 rfl) ?_
    refine tr_puti Z.1 Z.2.2.2.1 S17.1 S17.2 ha0 ta0 rfl rfl (fun _ h => List.mem_cons_of_mem _ (List.mem_append_right _ h)) tyX10_ok nmX10 3 (by decide) rfl rfl rfl (hts _ (List.mem_of_getElem? (i := 3) rfl)) dX10_clear_35 (by have := fb_rng v11; omega) (by have := fb_rng v11; omega) (fun E23 H24 k25 W23 I23 P23 => ?_)
    have S23 : Now D TB cy (va_A (va_pl L E) sz) s L τ E23 H24 k25 := ⟨W23, I23⟩
    have F23 : Fr L τ (inW [(11, 0), (60, 0), (61, 0)]) E E23 := Fr.put F17 P23 ta0 rfl
    refine lv_aload_n hx hb dX10_clear_38 rfl (lv_at hl16 3 rfl) ?_
    refine lv_iload_n hx hb dX10_clear_39 rfl (lv_at hl16 0 rfl) ?_
    refine tr_puti Z.1 Z.2.2.2.1 S23.1 S23.2 ha0 ta0 rfl rfl (fun _ h => List.mem_cons_of_mem _ (List.mem_append_right _ h)) tyX10_ok nmX10 6 (by decide) rfl rfl rfl (hts _ (List.mem_of_getElem? (i := 4) rfl)) dX10_clear_40 (by have := fb_rng v14; omega) (by have := fb_rng v14; omega) (fun E26 H27 k28 W26 I26 P26 => ?_)
    have S26 : Now D TB cy (va_A (va_pl L E) sz) s L τ E26 H27 k28 := ⟨W26, I26⟩
    have F26 : Fr L τ (inW [(11, 0), (60, 0), (61, 0)]) E E26 := Fr.put F23 P26 ta0 rfl
    refine lv_aload_n hx hb dX10_clear_43 rfl (lv_at hl16 3 rfl) ?_
    refine tr_getr Z.1 Z.2.2.2.1 S26.1 S26.2 ha0 ta0 rfl rfl (fun _ h => List.mem_cons_of_mem _ (List.mem_append_right _ h)) 0 (by decide) rfl (hts _ (List.mem_of_getElem? (i := 2) rfl)) dX10_clear_44 (fun q29 eq29 hq29 tq29 => ?_)
    have tq29 : τ q29 = (60, 0) := tq29
    have uq29 : qn = q29 := S26.2.2.2.2 _ hqn _ hq29 (tqn.trans tq29.symm) (by rw [tqn]; rfl)
    subst uq29
    obtain ⟨v30, ev30, tv30⟩ : ∃ v : Int32, (Int8.ofInt (19)).toInt32 = v ∧ v.toInt = 19 := ⟨_, rfl, by decide +kernel⟩
    refine lv_bipush hx hb dX10_clear_47 ev30 ?_
    obtain ⟨v31, ev31, tv31⟩ : ∃ v : Int32, Int32.ofInt (0) = v ∧ v.toInt = 0 := ⟨_, rfl, by decide +kernel⟩
    refine lv_iconst hx hb dX10_clear_49 ev31 ?_
    have b32 : nowB v30.toNatClampNeg = (0, 8) := nb_19 (by show v30.toInt.toNat = 19; omega)
    have b32 : (nowB v30.toNatClampNeg).1 ≤ v31.toInt ∧ v31.toInt ≤ (nowB v30.toNatClampNeg).2 := by rw [b32]; have := fb_rng v31; show 0 ≤ v31.toInt ∧ v31.toInt ≤ 8; omega
    refine tr_iastx Z.1 Z.2.2.2.1 S26.1 S26.2 hqn tqn rfl (by omega) (by omega) b32.1 b32.2 dX10_clear_50 (fun E32 H33 k34 W32 I32 P32 => ?_)
    have S32 : Now D TB cy (va_A (va_pl L E) sz) s L τ E32 H33 k34 := ⟨W32, I32⟩
    have F32 : Fr L τ (inW [(11, 0), (60, 0), (61, 0)]) E E32 := Fr.set F26 P32 tqn rfl
    refine lv_iload_n hx hb dX10_clear_51 rfl (lv_at hl16 2 rfl) ?_
    rw [← hQ]
    exact en_i Z S32 F32 ⟨(fun k hk => ((fi_set P32 (ne_ro ta0 tqn (by decide))).trans ((fi_put P26 (Or.inr (fw_ne (by decide) hk))).trans ((fi_put P23 (Or.inr (fw_ne (by decide) hk))).trans ((p17_1 k (fw_sub (by decide) hk)).trans ((fi_put P2 (Or.inr (fw_ne (by decide) hk))).trans ((fun k hk => rfl) k hk))))))), (Chain.post C21 S32.2 ha0 ta0 hqn tqn hqp tqp ((P32.1 qp (ne_ro tqp tqn (by decide))).trans ((P26.1 qp (ne_ro tqp ta0 (by decide))).trans (P23.1 qp (ne_ro tqp ta0 (by decide))))) ((fi_set P32 (ne_ro ta0 tqn (by decide))).trans ((fi_put P26 (Or.inr (by decide))).trans (fi_put P23 (Or.inr (by decide))))) (Link.ag (fun j h1 h2 => ((ai_setk P32 (by show j ≠ v30.toInt.toNat; omega)).trans ((ai_put P26 (ne_ro tqn ta0 (by decide))).trans ((ai_put P23 (ne_ro tqn ta0 (by decide))).trans (B22 j h1 h2)))))))⟩ dX10_clear_52
  · skip
    have tc10 := nu_eq c10
    have uc10 : (0 : Int32).toInt = 0 := rfl
    obtain ⟨v35, ev35, tv35⟩ : ∃ v : Int32, Int32.ofInt (0) = v ∧ v.toInt = 0 := ⟨_, rfl, by decide +kernel⟩
    refine lv_iconst hx hb dX10_clear_17 ev35 ?_
    rw [← hQ]
    exact en_i Z S2 F2 ⟨(fun k hk => ((fi_put P2 (Or.inr (fw_ne (by decide) hk))).trans ((fun k hk => rfl) k hk))), (Chain.same hC S2.2 ha0 ta0 hqn tqn hqp tqp (P2.1 qn (ne_ro tqn ta0 (by decide))) (P2.1 qp (ne_ro tqp ta0 (by decide))) (fi_put P2 (Or.inr (by decide))))⟩ dX10_clear_18

set_option maxRecDepth 20000 in
theorem ggX10_take_X10_not : GoodIn wsX10_take wsX10_not := goodIn_r _ [11, 12, 13, 24, 25, 26, 27, 28, 29, 30, 31, 32, 33, 34, 35, 36, 37, 38, 39, 40, 41, 42, 43, 44, 45, 46, 47, 48, 49, 50, 51, 52, 53, 54, 55, 56, 57, 58, 59, 60, 61, 62, 63, 64, 65, 66, 67, 68, 69, 70, 71] (by decide +kernel) (by decide +kernel)
set_option maxRecDepth 20000 in
theorem gX10_take_X10_not : GoodIn wsX10_take (wsV RX10 127 RX10 yX10_not wsX10_not) := goodIn_app (goodIn_of _ (by decide +kernel)) ggX10_take_X10_not
set_option maxRecDepth 20000 in
theorem ggX10_take_X10_act : GoodIn wsX10_take wsX10_act := goodIn_r _ [17, 18, 19, 5, 20, 21, 22, 10, 23, 12, 13, 24, 25, 26, 27, 28, 29, 30, 31, 32, 33, 34, 35, 36, 37, 38, 39, 40, 41, 42, 43, 44, 45, 46, 47, 48, 49, 50, 51, 52, 53, 54, 55, 56, 57, 58, 59, 60, 61, 62, 63, 64, 65, 66, 67, 68, 69, 70, 71] (by decide +kernel) (by decide +kernel)
set_option maxRecDepth 20000 in
theorem gX10_take_X10_act : GoodIn wsX10_take (wsV RX10 131 RX10 yX10_act wsX10_act) := goodIn_app (goodIn_of _ (by decide +kernel)) ggX10_take_X10_act
theorem dX10_take_0 : decode cX10_take 0 = .ok (.aload_n 0, 1) := by decide +kernel
theorem dX10_take_1 : decode cX10_take 1 = .ok (.iconst 0, 1) := by decide +kernel
theorem dX10_take_2 : decode cX10_take 2 = .ok (.putfield 97, 3) := by decide +kernel
theorem dX10_take_5 : decode cX10_take 5 = .ok (.aload_n 0, 1) := by decide +kernel
theorem dX10_take_6 : decode cX10_take 6 = .ok (.getfield 254, 3) := by decide +kernel
theorem dX10_take_9 : decode cX10_take 9 = .ok (.ifCond .eq 23, 3) := by decide +kernel
theorem dX10_take_12 : decode cX10_take 12 = .ok (.aload_n 0, 1) := by decide +kernel
theorem dX10_take_13 : decode cX10_take 13 = .ok (.getfield 244, 3) := by decide +kernel
theorem dX10_take_16 : decode cX10_take 16 = .ok (.ifCond .eq 16, 3) := by decide +kernel
theorem dX10_take_19 : decode cX10_take 19 = .ok (.aload_n 0, 1) := by decide +kernel
theorem dX10_take_20 : decode cX10_take 20 = .ok (.getfield 257, 3) := by decide +kernel
theorem dX10_take_23 : decode cX10_take 23 = .ok (.aload_n 0, 1) := by decide +kernel
theorem dX10_take_24 : decode cX10_take 24 = .ok (.getfield 7, 3) := by decide +kernel
theorem dX10_take_27 : decode cX10_take 27 = .ok (.iconst 4, 1) := by decide +kernel
theorem dX10_take_28 : decode cX10_take 28 = .ok (.iaload, 1) := by decide +kernel
theorem dX10_take_29 : decode cX10_take 29 = .ok (.if_icmp .eq 9, 3) := by decide +kernel
theorem dX10_take_32 : decode cX10_take 32 = .ok (.aload_n 0, 1) := by decide +kernel
theorem dX10_take_33 : decode cX10_take 33 = .ok (.iconst 5, 1) := by decide +kernel
theorem dX10_take_34 : decode cX10_take 34 = .ok (.invokevirtual 127, 3) := by decide +kernel
theorem dX10_take_37 : decode cX10_take 37 = .ok (.ireturn, 1) := by decide +kernel
theorem dX10_take_38 : decode cX10_take 38 = .ok (.aload_n 0, 1) := by decide +kernel
theorem dX10_take_39 : decode cX10_take 39 = .ok (.invokevirtual 131, 3) := by decide +kernel
theorem dX10_take_42 : decode cX10_take 42 = .ok (.iconst 0, 1) := by decide +kernel
theorem dX10_take_43 : decode cX10_take 43 = .ok (.istore_n 1, 1) := by decide +kernel
theorem dX10_take_44 : decode cX10_take 44 = .ok (.iload_n 1, 1) := by decide +kernel
theorem dX10_take_45 : decode cX10_take 45 = .ok (.aload_n 0, 1) := by decide +kernel
theorem dX10_take_46 : decode cX10_take 46 = .ok (.getfield 257, 3) := by decide +kernel
theorem dX10_take_49 : decode cX10_take 49 = .ok (.if_icmp .ge 23, 3) := by decide +kernel
theorem dX10_take_52 : decode cX10_take 52 = .ok (.aload_n 0, 1) := by decide +kernel
theorem dX10_take_53 : decode cX10_take 53 = .ok (.getfield 7, 3) := by decide +kernel
theorem dX10_take_56 : decode cX10_take 56 = .ok (.iconst 5, 1) := by decide +kernel
theorem dX10_take_57 : decode cX10_take 57 = .ok (.iload_n 1, 1) := by decide +kernel
theorem dX10_take_58 : decode cX10_take 58 = .ok (.iadd, 1) := by decide +kernel
theorem dX10_take_59 : decode cX10_take 59 = .ok (.aload_n 0, 1) := by decide +kernel
theorem dX10_take_60 : decode cX10_take 60 = .ok (.getfield 82, 3) := by decide +kernel
theorem dX10_take_63 : decode cX10_take 63 = .ok (.iload_n 1, 1) := by decide +kernel
theorem dX10_take_64 : decode cX10_take 64 = .ok (.iaload, 1) := by decide +kernel
theorem dX10_take_65 : decode cX10_take 65 = .ok (.iastore, 1) := by decide +kernel
theorem dX10_take_66 : decode cX10_take 66 = .ok (.iinc 1 1, 3) := by decide +kernel
theorem dX10_take_69 : decode cX10_take 69 = .ok (.goto (-25), 3) := by decide +kernel
theorem dX10_take_72 : decode cX10_take 72 = .ok (.iconst 1, 1) := by decide +kernel
theorem dX10_take_73 : decode cX10_take 73 = .ok (.ireturn, 1) := by decide +kernel
set_option maxHeartbeats 4000000 in
set_option maxRecDepth 100000 in
theorem k_X10_take (l : Launch) (D : va_G) (cy : Nat → ClassId) {L : List Nat} {τ : Nat → Ro} {E : Ec} (hI : Inv TB cy L τ E) {a0 : Nat} (ha0 : a0 ∈ L) (ta0 : τ a0 = (11, 0)) (hC : Chain L τ E) : CtI l yX10_take wsX10_take { frames := 2, cells := 0, slots := 0, locals := 41 } D TB cy L τ E [.ref a0] (inW [(11, 0), (60, 0), (61, 0)]) (fun r E' => 0 ≤ r.toInt ∧ r.toInt ≤ 1 ∧ (∀ k : Nat, k ∉ ([2, 3, 4, 6] : List Nat) → fi E' a0 k = fi E a0 k) ∧ Chain L τ E') := by
  intro sz
  refine sta (cc := cX10_take) (maxL := 2) hI (by decide) rfl (Nat.le_of_ble_eq_true rfl) (fun p e s m args below meth c ls hsz Z S0 hl => ?_)
  have hx := Z.1.1
  have hb := Z.1.2.1
  have hts := Z.1.2.2.2.2
  have F0_ : Fr L τ (inW [(11, 0), (60, 0), (61, 0)]) E E := Fr.refl
  have hl : lv_has ls 2 [(0, .ref a0)] := hl
  generalize hQ : MQ below _ args s 0 0 _ = QQ
  obtain ⟨qn, hqn, tqn⟩ := ref_of (k := 0) hI ha0 ta0 rfl rfl
  have tqn : τ qn = (60, 0) := tqn
  obtain ⟨qp, hqp, tqp⟩ := ref_of (k := 1) hI ha0 ta0 rfl rfl
  have tqp : τ qp = (61, 0) := tqp
  have J44 : ∀ (n : Nat) (x1_44 : Int32) (E_44 : Ec) (H_44 : Heap) (k_44 : List Loc) (l_44 : Array Slot), Now D TB cy (va_A (va_pl L E) sz) s L τ E_44 H_44 k_44 → Fr L τ (inW [(11, 0), (60, 0), (61, 0)]) E E_44 → (0 ≤ x1_44.toInt) → (x1_44.toInt ≤ 3) → (∀ T : Nat → Int32, Link (ai E qn) T → ChW E_44 a0 qp T) → (∀ j : Nat, 44 ≤ j → j ≤ 52 → ai E_44 qn j = ai E qn j) → (∀ k : Nat, k ∉ ([2, 3, 4, 6] : List Nat) → fi E_44 a0 k = fi E a0 k) → (3 - x1_44.toInt).toNat < n → lv_has l_44 2 [(0, .ref a0), (1, .int x1_44)] → W p l e { frames := 2, cells := 0, slots := 0, locals := 41 } s m args below meth c H_44 k_44 0 0 QQ (F0 m 44 l_44 []) := by
    intro n
    induction n with
    | zero => intro x1_44 E_44 H_44 k_44 l_44 S_44 F_44 z1 z2 z3 z4 z5 hm hl_44; exact absurd hm (Nat.not_lt_zero _)
    | succ n ih =>
      intro x1_44 E_44 H_44 k_44 l_44 S_44 F_44 z1 z2 z3 z4 z5 hm hl_44
      have ih_44 := ih
      refine lv_iload_n hx hb dX10_take_44 rfl (lv_at hl_44 1 rfl) ?_
      refine lv_aload_n hx hb dX10_take_45 rfl (lv_at hl_44 0 rfl) ?_
      refine tr_geti Z.1 Z.2.2.2.1 S_44.1 S_44.2 ha0 ta0 rfl rfl (fun _ h => List.mem_cons_of_mem _ (List.mem_append_right _ h)) 38 (by decide) rfl (hts _ (List.mem_of_getElem? (i := 4) rfl)) dX10_take_46 (fun v6 ev6 lv6 uv6 => ?_)
      refine lv_icmp_ge (tgt := 72) hx hb dX10_take_49 (by decide) (fun c7 => ?_) (fun c7 => ?_)
      · skip
        have tc7 := nu_le c7
        obtain ⟨v8, ev8, tv8⟩ : ∃ v : Int32, Int32.ofInt (1) = v ∧ v.toInt = 1 := ⟨_, rfl, by decide +kernel⟩
        refine lv_iconst hx hb dX10_take_72 ev8 ?_
        rw [← hQ]
        exact en_z Z S_44 F_44 (zo v8 (by omega)) ⟨(by omega), (by omega), (fun k hk => (z5 k hk)), (Chain.post z3 S_44.2 ha0 ta0 hqn tqn hqp tqp rfl rfl (Link.ag (fun j h1 h2 => (z4 j h1 h2))))⟩ dX10_take_73
      · skip
        have tc7 := nu_nle c7
        refine lv_aload_n hx hb dX10_take_52 rfl (lv_at hl_44 0 rfl) ?_
        refine tr_getr Z.1 Z.2.2.2.1 S_44.1 S_44.2 ha0 ta0 rfl rfl (fun _ h => List.mem_cons_of_mem _ (List.mem_append_right _ h)) 0 (by decide) rfl (hts _ (List.mem_of_getElem? (i := 5) rfl)) dX10_take_53 (fun q9 eq9 hq9 tq9 => ?_)
        have tq9 : τ q9 = (60, 0) := tq9
        have uq9 : qn = q9 := S_44.2.2.2.2 _ hqn _ hq9 (tqn.trans tq9.symm) (by rw [tqn]; rfl)
        subst uq9
        obtain ⟨v10, ev10, tv10⟩ : ∃ v : Int32, Int32.ofInt (5) = v ∧ v.toInt = 5 := ⟨_, rfl, by decide +kernel⟩
        refine lv_iconst hx hb dX10_take_56 ev10 ?_
        refine lv_iload_n hx hb dX10_take_57 rfl (lv_at hl_44 1 rfl) ?_
        refine lv_iadd hx hb dX10_take_58 ?_
        refine lv_topi (fun v11 ev11 => ?_)
        have tv11 := nu_add ev11 (by omega) (by omega)
        refine lv_aload_n hx hb dX10_take_59 rfl (lv_at hl_44 0 rfl) ?_
        refine tr_getr Z.1 Z.2.2.2.1 S_44.1 S_44.2 ha0 ta0 rfl rfl (fun _ h => List.mem_cons_of_mem _ (List.mem_append_right _ h)) 34 (by decide) rfl (hts _ (List.mem_of_getElem? (i := 6) rfl)) dX10_take_60 (fun q12 eq12 hq12 tq12 => ?_)
        have tq12 : τ q12 = (82, 0) := tq12
        refine lv_iload_n hx hb dX10_take_63 rfl (lv_at hl_44 1 rfl) ?_
        refine tr_iald Z.1 Z.2.2.2.1 S_44.1 S_44.2 hq12 tq12 rfl (by omega) (by omega) dX10_take_64 (fun v13 ev13 lv13 uv13 => ?_)
        have b14 : nowB v11.toNatClampNeg = (0, 20) := nb_5 (by show 5 ≤ v11.toInt.toNat ∧ v11.toInt.toNat ≤ 7; omega)
        have b14 : (nowB v11.toNatClampNeg).1 ≤ v13.toInt ∧ v13.toInt ≤ (nowB v11.toNatClampNeg).2 := by rw [b14]; have := fb_rng v13; show 0 ≤ v13.toInt ∧ v13.toInt ≤ 20; omega
        refine tr_iastx Z.1 Z.2.2.2.1 S_44.1 S_44.2 hqn tqn rfl (by omega) (by omega) b14.1 b14.2 dX10_take_65 (fun E14 H15 k16 W14 I14 P14 => ?_)
        have S14 : Now D TB cy (va_A (va_pl L E) sz) s L τ E14 H15 k16 := ⟨W14, I14⟩
        have F14 : Fr L τ (inW [(11, 0), (60, 0), (61, 0)]) E E14 := Fr.set F_44 P14 tqn rfl
        obtain ⟨v17, ev17⟩ : ∃ y : Int32, x1_44 + Int32.ofInt (1) = y := ⟨_, rfl⟩
        have tv17 : v17.toInt = x1_44.toInt + (1) := by rw [← ev17]; exact (fb_addI (by rw [show (Int32.ofInt (1)).toInt = 1 from by decide +kernel]; omega) (by rw [show (Int32.ofInt (1)).toInt = 1 from by decide +kernel]; omega)).trans (by rw [show (Int32.ofInt (1)).toInt = 1 from by decide +kernel])
        refine lv_iinc (v := v17) (lv' := [(1, .int v17), (0, .ref a0)]) hx hb dX10_take_66 hl_44 (k := 1) rfl ev17 (by decide) rfl (fun l18 hl19 => ?_)
        refine lv_goto (tgt := 44) hx hb dX10_take_69 (by decide) ?_
        exact ih_44 v17 E14 H15 k16 l18 S14 F14 (by omega) (by omega) (fun T hT => (z3 T hT).keep (P14.1 qp (ne_ro tqp tqn (by decide))) (fi_set P14 (ne_ro ta0 tqn (by decide)))) (fun j h1 h2 => ((ai_setk P14 (by show j ≠ v11.toInt.toNat; omega)).trans (z4 j h1 h2))) (fun k hk => ((fi_set P14 (ne_ro ta0 tqn (by decide))).trans (z5 k hk))) (by omega) (lv_sub hl19 [1, 0] rfl)
  have J32 : ∀  (E_32 : Ec) (H_32 : Heap) (k_32 : List Loc) (l_32 : Array Slot), Now D TB cy (va_A (va_pl L E) sz) s L τ E_32 H_32 k_32 → Fr L τ (inW [(11, 0), (60, 0), (61, 0)]) E E_32 → (Chain L τ E_32) → (∀ k : Nat, k ∉ ([2, 3, 4, 6] : List Nat) → fi E_32 a0 k = fi E a0 k) → lv_has l_32 2 [(0, .ref a0)] → W p l e { frames := 2, cells := 0, slots := 0, locals := 41 } s m args below meth c H_32 k_32 0 0 QQ (F0 m 32 l_32 []) := by
    intro  E_32 H_32 k_32 l_32 S_32 F_32 z20 z21 hl_32
    refine lv_aload_n hx hb dX10_take_32 rfl (lv_at hl_32 0 rfl) ?_
    obtain ⟨v22, ev22, tv22⟩ : ∃ v : Int32, Int32.ofInt (5) = v ∧ v.toInt = 5 := ⟨_, rfl, by decide +kernel⟩
    refine lv_iconst hx hb dX10_take_33 ev22 ?_
    refine tc_vi Z.1 Z.2.2.2.1 Z.2.2.2.2.1 Z.2.2.2.2.2 S_32.1 S_32.2 ha0 ta0 rfl rfl (k_X10_not l D cy S_32.2 ha0 ta0 v22) (cwV 1 hts gX10_take_X10_not rfl rfl rfl (by decide +kernel) ⟨Nat.le_of_ble_eq_true rfl, Nat.le_of_ble_eq_true rfl⟩) rfl hl_32.1 rfl (Nat.le_of_ble_eq_true rfl) dX10_take_34 ⟨Nat.zero_le _, Nat.zero_le _⟩ (fun v26 E23 H24 k25 W23 I23 G23 p23 => ?_)
    obtain ⟨p23_0, p23_1, p23_2⟩ := p23
    have S23 : Now D TB cy (va_A (va_pl L E) sz) s L τ E23 H24 k25 := ⟨W23, I23⟩
    have F23 : Fr L τ (inW [(11, 0), (60, 0), (61, 0)]) E E23 := F_32.trans (G23.mono (inW_mono (by decide)))
    rw [← hQ]
    exact en_z Z S23 F23 (zo v26 (by omega)) ⟨(by omega), (by omega), (fun k hk => ((p23_2 k (fw_sub (by decide) hk)).trans (z21 k hk))), (Chain.same z20 S23.2 ha0 ta0 hqn tqn hqp tqp (G23 qn hqn (by rw [tqn]; rfl)) (G23 qp hqp (by rw [tqp]; rfl)) (p23_2 2 (by decide)))⟩ dX10_take_37
  refine lv_aload_n hx hb dX10_take_0 rfl (lv_at hl 0 rfl) ?_
  obtain ⟨v27, ev27, tv27⟩ : ∃ v : Int32, Int32.ofInt (0) = v ∧ v.toInt = 0 := ⟨_, rfl, by decide +kernel⟩
  refine lv_iconst hx hb dX10_take_1 ev27 ?_
  refine tr_puti Z.1 Z.2.2.2.1 S0.1 S0.2 ha0 ta0 rfl rfl (fun _ h => List.mem_cons_of_mem _ (List.mem_append_right _ h)) tyX10_ok nmX10 4 (by decide) rfl rfl rfl (hts _ (List.mem_of_getElem? (i := 1) rfl)) dX10_take_2 (by omega) (by omega) (fun E28 H29 k30 W28 I28 P28 => ?_)
  have S28 : Now D TB cy (va_A (va_pl L E) sz) s L τ E28 H29 k30 := ⟨W28, I28⟩
  have F28 : Fr L τ (inW [(11, 0), (60, 0), (61, 0)]) E E28 := Fr.put F0_ P28 ta0 rfl
  refine lv_aload_n hx hb dX10_take_5 rfl (lv_at hl 0 rfl) ?_
  refine tr_geti Z.1 Z.2.2.2.1 S28.1 S28.2 ha0 ta0 rfl rfl (fun _ h => List.mem_cons_of_mem _ (List.mem_append_right _ h)) 40 (by decide) rfl (hts _ (List.mem_of_getElem? (i := 2) rfl)) dX10_take_6 (fun v31 ev31 lv31 uv31 => ?_)
  refine lv_if_eq (tgt := 32) hx hb dX10_take_9 (by decide) (fun c32 => ?_) (fun c32 => ?_)
  · skip
    have tc32 := nu_eq c32
    have uc32 : (0 : Int32).toInt = 0 := rfl
    exact J32 E28 H29 k30 ls S28 F28 (Chain.same hC S28.2 ha0 ta0 hqn tqn hqp tqp (P28.1 qn (ne_ro tqn ta0 (by decide))) (P28.1 qp (ne_ro tqp ta0 (by decide))) (fi_put P28 (Or.inr (by decide)))) (fun k hk => ((fi_put P28 (Or.inr (fw_ne (by decide) hk))).trans ((fun k hk => rfl) k hk))) (lv_sub hl [0] rfl)
  · skip
    have tc32 := nu_ne c32
    have uc32 : (0 : Int32).toInt = 0 := rfl
    refine lv_aload_n hx hb dX10_take_12 rfl (lv_at hl 0 rfl) ?_
    refine tr_geti Z.1 Z.2.2.2.1 S28.1 S28.2 ha0 ta0 rfl rfl (fun _ h => List.mem_cons_of_mem _ (List.mem_append_right _ h)) 41 (by decide) rfl (hts _ (List.mem_of_getElem? (i := 3) rfl)) dX10_take_13 (fun v33 ev33 lv33 uv33 => ?_)
    refine lv_if_eq (tgt := 32) hx hb dX10_take_16 (by decide) (fun c34 => ?_) (fun c34 => ?_)
    · skip
      have tc34 := nu_eq c34
      have uc34 : (0 : Int32).toInt = 0 := rfl
      exact J32 E28 H29 k30 ls S28 F28 (Chain.same hC S28.2 ha0 ta0 hqn tqn hqp tqp (P28.1 qn (ne_ro tqn ta0 (by decide))) (P28.1 qp (ne_ro tqp ta0 (by decide))) (fi_put P28 (Or.inr (by decide)))) (fun k hk => ((fi_put P28 (Or.inr (fw_ne (by decide) hk))).trans ((fun k hk => rfl) k hk))) (lv_sub hl [0] rfl)
    · skip
      have tc34 := nu_ne c34
      have uc34 : (0 : Int32).toInt = 0 := rfl
      refine lv_aload_n hx hb dX10_take_19 rfl (lv_at hl 0 rfl) ?_
      refine tr_geti Z.1 Z.2.2.2.1 S28.1 S28.2 ha0 ta0 rfl rfl (fun _ h => List.mem_cons_of_mem _ (List.mem_append_right _ h)) 38 (by decide) rfl (hts _ (List.mem_of_getElem? (i := 4) rfl)) dX10_take_20 (fun v35 ev35 lv35 uv35 => ?_)
      refine lv_aload_n hx hb dX10_take_23 rfl (lv_at hl 0 rfl) ?_
      refine tr_getr Z.1 Z.2.2.2.1 S28.1 S28.2 ha0 ta0 rfl rfl (fun _ h => List.mem_cons_of_mem _ (List.mem_append_right _ h)) 0 (by decide) rfl (hts _ (List.mem_of_getElem? (i := 5) rfl)) dX10_take_24 (fun q36 eq36 hq36 tq36 => ?_)
      have tq36 : τ q36 = (60, 0) := tq36
      have uq36 : qn = q36 := S28.2.2.2.2 _ hqn _ hq36 (tqn.trans tq36.symm) (by rw [tqn]; rfl)
      subst uq36
      obtain ⟨v37, ev37, tv37⟩ : ∃ v : Int32, Int32.ofInt (4) = v ∧ v.toInt = 4 := ⟨_, rfl, by decide +kernel⟩
      refine lv_iconst hx hb dX10_take_27 ev37 ?_
      refine tr_ialdx Z.1 Z.2.2.2.1 S28.1 S28.2 hqn tqn rfl (by omega) (by omega) dX10_take_28 (fun v38 ev38 lv38 uv38 => ?_)
      have bv38 : nowB v37.toNatClampNeg = (0, 3) := nb_4 (by show v37.toInt.toNat = 4; omega)
      rw [bv38] at lv38 uv38
      have lv38 : 0 ≤ v38.toInt := lv38
      have uv38 : v38.toInt ≤ 3 := uv38
      have av38 : ai E28 qn 4 = v38 := ai_at ev38 (by omega)
      refine lv_icmp_eq (tgt := 38) hx hb dX10_take_29 (by decide) (fun c39 => ?_) (fun c39 => ?_)
      · skip
        have tc39 := nu_eq c39
        refine lv_aload_n hx hb dX10_take_38 rfl (lv_at hl 0 rfl) ?_
        refine tc_vv Z.1 Z.2.2.2.1 Z.2.2.2.2.1 Z.2.2.2.2.2 S28.1 S28.2 ha0 ta0 rfl rfl (k_X10_act l D cy S28.2 ha0 ta0 (Chain.same hC S28.2 ha0 ta0 hqn tqn hqp tqp (P28.1 qn (ne_ro tqn ta0 (by decide))) (P28.1 qp (ne_ro tqp ta0 (by decide))) (fi_put P28 (Or.inr (by decide))))) (cwV 0 hts gX10_take_X10_act rfl rfl rfl (by decide +kernel) ⟨Nat.le_of_ble_eq_true rfl, Nat.le_of_ble_eq_true rfl⟩) rfl hl.1 rfl (Nat.le_of_ble_eq_true rfl) dX10_take_39 ⟨Nat.zero_le _, Nat.zero_le _⟩ (fun E40 H41 k42 W40 I40 G40 p40 => ?_)
        obtain ⟨p40_0, p40_1⟩ := p40
        have S40 : Now D TB cy (va_A (va_pl L E) sz) s L τ E40 H41 k42 := ⟨W40, I40⟩
        have F40 : Fr L τ (inW [(11, 0), (60, 0), (61, 0)]) E E40 := F28.trans (G40.mono (inW_mono (by decide)))
        have C44 : ∀ T : Nat → Int32, Link (ai E qn) T → ChW E40 a0 qp T := fun T hT => p40_0 qn hqn tqn qp hqp tqp T (by rw [ai_cell (P28.1 qn (ne_ro tqn ta0 (by decide)))]; exact hT)
        have B45 : ∀ j : Nat, 44 ≤ j → j ≤ 52 → ai E40 qn j = ai E qn j := fun j _ _ => ((ai_fr G40 hqn (by rw [tqn]; rfl)).trans (ai_put P28 (ne_ro tqn ta0 (by decide))))
        obtain ⟨v46, ev46, tv46⟩ : ∃ v : Int32, Int32.ofInt (0) = v ∧ v.toInt = 0 := ⟨_, rfl, by decide +kernel⟩
        refine lv_iconst hx hb dX10_take_42 ev46 ?_
        refine lv_istore_n (lv' := [(1, .int v46), (0, .ref a0)]) hx hb dX10_take_43 rfl hl (by decide) rfl (fun l47 hl48 => ?_)
        exact J44 _ v46 E40 H41 k42 l47 S40 F40 (by omega) (by omega) C44 (fun j h1 h2 => (B45 j h1 h2)) (fun k hk => ((p40_1 k (fw_sub (by decide) hk)).trans ((fi_put P28 (Or.inr (fw_ne (by decide) hk))).trans ((fun k hk => rfl) k hk)))) (Nat.lt_succ_self _) (lv_sub hl48 [1, 0] rfl)
      · skip
        have tc39 := nu_ne c39
        exact J32 E28 H29 k30 ls S28 F28 (Chain.same hC S28.2 ha0 ta0 hqn tqn hqp tqp (P28.1 qn (ne_ro tqn ta0 (by decide))) (P28.1 qp (ne_ro tqp ta0 (by decide))) (fi_put P28 (Or.inr (by decide)))) (fun k hk => ((fi_put P28 (Or.inr (fw_ne (by decide) hk))).trans ((fun k hk => rfl) k hk))) (lv_sub hl [0] rfl)

set_option maxRecDepth 20000 in
theorem ggX10_beam_X10_in : GoodIn wsX10_beam wsX10_in := goodIn_r _ [7] (by decide +kernel) (by decide +kernel)
set_option maxRecDepth 20000 in
theorem gX10_beam_X10_in : GoodIn wsX10_beam (wsV RX10 123 RX10 yX10_in wsX10_in) := goodIn_app (goodIn_of _ (by decide +kernel)) ggX10_beam_X10_in
set_option maxRecDepth 20000 in
theorem ggX10_beam_X10_no : GoodIn wsX10_beam wsX10_no := goodIn_r _ [11, 12, 13, 24, 25, 26, 27, 28, 29, 30, 31, 32, 33, 34, 35, 36, 37, 38, 39, 40, 41, 42, 43, 44, 45, 46, 47, 48, 49, 50, 51, 52, 53, 54, 55, 56, 57, 58, 59, 60, 61, 62, 63, 64, 65, 66, 67, 68, 69, 70, 71] (by decide +kernel) (by decide +kernel)
set_option maxRecDepth 20000 in
theorem gX10_beam_X10_no : GoodIn wsX10_beam (wsV RX10 144 RX10 yX10_no wsX10_no) := goodIn_app (goodIn_of _ (by decide +kernel)) ggX10_beam_X10_no
set_option maxRecDepth 20000 in
theorem ggX10_beam_X10_act : GoodIn wsX10_beam wsX10_act := goodIn_r _ [17, 18, 19, 2, 20, 21, 22, 6, 23, 12, 13, 24, 25, 26, 27, 28, 29, 30, 31, 32, 33, 34, 35, 36, 37, 38, 39, 40, 41, 42, 43, 44, 45, 46, 47, 48, 49, 50, 51, 52, 53, 54, 55, 56, 57, 58, 59, 60, 61, 62, 63, 64, 65, 66, 67, 68, 69, 70, 71] (by decide +kernel) (by decide +kernel)
set_option maxRecDepth 20000 in
theorem gX10_beam_X10_act : GoodIn wsX10_beam (wsV RX10 131 RX10 yX10_act wsX10_act) := goodIn_app (goodIn_of _ (by decide +kernel)) ggX10_beam_X10_act
theorem dX10_beam_0 : decode cX10_beam 0 = .ok (.aload_n 0, 1) := by decide +kernel
theorem dX10_beam_1 : decode cX10_beam 1 = .ok (.iconst 0, 1) := by decide +kernel
theorem dX10_beam_2 : decode cX10_beam 2 = .ok (.putfield 97, 3) := by decide +kernel
theorem dX10_beam_5 : decode cX10_beam 5 = .ok (.aload_n 0, 1) := by decide +kernel
theorem dX10_beam_6 : decode cX10_beam 6 = .ok (.iload_n 1, 1) := by decide +kernel
theorem dX10_beam_7 : decode cX10_beam 7 = .ok (.iconst 0, 1) := by decide +kernel
theorem dX10_beam_8 : decode cX10_beam 8 = .ok (.sipush 20000, 3) := by decide +kernel
theorem dX10_beam_11 : decode cX10_beam 11 = .ok (.invokevirtual 123, 3) := by decide +kernel
theorem dX10_beam_14 : decode cX10_beam 14 = .ok (.ifCond .eq 29, 3) := by decide +kernel
theorem dX10_beam_17 : decode cX10_beam 17 = .ok (.aload_n 0, 1) := by decide +kernel
theorem dX10_beam_18 : decode cX10_beam 18 = .ok (.iload_n 2, 1) := by decide +kernel
theorem dX10_beam_19 : decode cX10_beam 19 = .ok (.iload_n 1, 1) := by decide +kernel
theorem dX10_beam_20 : decode cX10_beam 20 = .ok (.iconst 1, 1) := by decide +kernel
theorem dX10_beam_21 : decode cX10_beam 21 = .ok (.iadd, 1) := by decide +kernel
theorem dX10_beam_22 : decode cX10_beam 22 = .ok (.sipush 20000, 3) := by decide +kernel
theorem dX10_beam_25 : decode cX10_beam 25 = .ok (.invokevirtual 123, 3) := by decide +kernel
theorem dX10_beam_28 : decode cX10_beam 28 = .ok (.ifCond .eq 15, 3) := by decide +kernel
theorem dX10_beam_31 : decode cX10_beam 31 = .ok (.aload_n 0, 1) := by decide +kernel
theorem dX10_beam_32 : decode cX10_beam 32 = .ok (.iload_n 3, 1) := by decide +kernel
theorem dX10_beam_33 : decode cX10_beam 33 = .ok (.iconst 0, 1) := by decide +kernel
theorem dX10_beam_34 : decode cX10_beam 34 = .ok (.sipush 9000, 3) := by decide +kernel
theorem dX10_beam_37 : decode cX10_beam 37 = .ok (.invokevirtual 123, 3) := by decide +kernel
theorem dX10_beam_40 : decode cX10_beam 40 = .ok (.ifCond .ne 9, 3) := by decide +kernel
theorem dX10_beam_43 : decode cX10_beam 43 = .ok (.aload_n 0, 1) := by decide +kernel
theorem dX10_beam_44 : decode cX10_beam 44 = .ok (.iconst 1, 1) := by decide +kernel
theorem dX10_beam_45 : decode cX10_beam 45 = .ok (.invokevirtual 144, 3) := by decide +kernel
theorem dX10_beam_48 : decode cX10_beam 48 = .ok (.ireturn, 1) := by decide +kernel
theorem dX10_beam_49 : decode cX10_beam 49 = .ok (.aload_n 0, 1) := by decide +kernel
theorem dX10_beam_50 : decode cX10_beam 50 = .ok (.getfield 7, 3) := by decide +kernel
theorem dX10_beam_53 : decode cX10_beam 53 = .ok (.bipush 19, 2) := by decide +kernel
theorem dX10_beam_55 : decode cX10_beam 55 = .ok (.iaload, 1) := by decide +kernel
theorem dX10_beam_56 : decode cX10_beam 56 = .ok (.istore 4, 2) := by decide +kernel
theorem dX10_beam_58 : decode cX10_beam 58 = .ok (.iload 4, 2) := by decide +kernel
theorem dX10_beam_60 : decode cX10_beam 60 = .ok (.bipush 8, 2) := by decide +kernel
theorem dX10_beam_62 : decode cX10_beam 62 = .ok (.if_icmp .ne 9, 3) := by decide +kernel
theorem dX10_beam_65 : decode cX10_beam 65 = .ok (.aload_n 0, 1) := by decide +kernel
theorem dX10_beam_66 : decode cX10_beam 66 = .ok (.iconst 3, 1) := by decide +kernel
theorem dX10_beam_67 : decode cX10_beam 67 = .ok (.invokevirtual 144, 3) := by decide +kernel
theorem dX10_beam_70 : decode cX10_beam 70 = .ok (.ireturn, 1) := by decide +kernel
theorem dX10_beam_71 : decode cX10_beam 71 = .ok (.aload_n 0, 1) := by decide +kernel
theorem dX10_beam_72 : decode cX10_beam 72 = .ok (.invokevirtual 131, 3) := by decide +kernel
theorem dX10_beam_75 : decode cX10_beam 75 = .ok (.aload_n 0, 1) := by decide +kernel
theorem dX10_beam_76 : decode cX10_beam 76 = .ok (.getfield 7, 3) := by decide +kernel
theorem dX10_beam_79 : decode cX10_beam 79 = .ok (.bipush 20, 2) := by decide +kernel
theorem dX10_beam_81 : decode cX10_beam 81 = .ok (.iconst 3, 1) := by decide +kernel
theorem dX10_beam_82 : decode cX10_beam 82 = .ok (.iload 4, 2) := by decide +kernel
theorem dX10_beam_84 : decode cX10_beam 84 = .ok (.imul, 1) := by decide +kernel
theorem dX10_beam_85 : decode cX10_beam 85 = .ok (.iadd, 1) := by decide +kernel
theorem dX10_beam_86 : decode cX10_beam 86 = .ok (.iload_n 1, 1) := by decide +kernel
theorem dX10_beam_87 : decode cX10_beam 87 = .ok (.iastore, 1) := by decide +kernel
theorem dX10_beam_88 : decode cX10_beam 88 = .ok (.aload_n 0, 1) := by decide +kernel
theorem dX10_beam_89 : decode cX10_beam 89 = .ok (.getfield 7, 3) := by decide +kernel
theorem dX10_beam_92 : decode cX10_beam 92 = .ok (.bipush 20, 2) := by decide +kernel
theorem dX10_beam_94 : decode cX10_beam 94 = .ok (.iconst 3, 1) := by decide +kernel
theorem dX10_beam_95 : decode cX10_beam 95 = .ok (.iload 4, 2) := by decide +kernel
theorem dX10_beam_97 : decode cX10_beam 97 = .ok (.imul, 1) := by decide +kernel
theorem dX10_beam_98 : decode cX10_beam 98 = .ok (.iadd, 1) := by decide +kernel
theorem dX10_beam_99 : decode cX10_beam 99 = .ok (.iconst 1, 1) := by decide +kernel
theorem dX10_beam_100 : decode cX10_beam 100 = .ok (.iadd, 1) := by decide +kernel
theorem dX10_beam_101 : decode cX10_beam 101 = .ok (.iload_n 2, 1) := by decide +kernel
theorem dX10_beam_102 : decode cX10_beam 102 = .ok (.iastore, 1) := by decide +kernel
theorem dX10_beam_103 : decode cX10_beam 103 = .ok (.aload_n 0, 1) := by decide +kernel
theorem dX10_beam_104 : decode cX10_beam 104 = .ok (.getfield 7, 3) := by decide +kernel
theorem dX10_beam_107 : decode cX10_beam 107 = .ok (.bipush 20, 2) := by decide +kernel
theorem dX10_beam_109 : decode cX10_beam 109 = .ok (.iconst 3, 1) := by decide +kernel
theorem dX10_beam_110 : decode cX10_beam 110 = .ok (.iload 4, 2) := by decide +kernel
theorem dX10_beam_112 : decode cX10_beam 112 = .ok (.imul, 1) := by decide +kernel
theorem dX10_beam_113 : decode cX10_beam 113 = .ok (.iadd, 1) := by decide +kernel
theorem dX10_beam_114 : decode cX10_beam 114 = .ok (.iconst 2, 1) := by decide +kernel
theorem dX10_beam_115 : decode cX10_beam 115 = .ok (.iadd, 1) := by decide +kernel
theorem dX10_beam_116 : decode cX10_beam 116 = .ok (.iload_n 3, 1) := by decide +kernel
theorem dX10_beam_117 : decode cX10_beam 117 = .ok (.iastore, 1) := by decide +kernel
theorem dX10_beam_118 : decode cX10_beam 118 = .ok (.aload_n 0, 1) := by decide +kernel
theorem dX10_beam_119 : decode cX10_beam 119 = .ok (.getfield 7, 3) := by decide +kernel
theorem dX10_beam_122 : decode cX10_beam 122 = .ok (.bipush 19, 2) := by decide +kernel
theorem dX10_beam_124 : decode cX10_beam 124 = .ok (.dup2, 1) := by decide +kernel
theorem dX10_beam_125 : decode cX10_beam 125 = .ok (.iaload, 1) := by decide +kernel
theorem dX10_beam_126 : decode cX10_beam 126 = .ok (.iconst 1, 1) := by decide +kernel
theorem dX10_beam_127 : decode cX10_beam 127 = .ok (.iadd, 1) := by decide +kernel
theorem dX10_beam_128 : decode cX10_beam 128 = .ok (.iastore, 1) := by decide +kernel
theorem dX10_beam_129 : decode cX10_beam 129 = .ok (.iload 4, 2) := by decide +kernel
theorem dX10_beam_131 : decode cX10_beam 131 = .ok (.iconst 1, 1) := by decide +kernel
theorem dX10_beam_132 : decode cX10_beam 132 = .ok (.iadd, 1) := by decide +kernel
theorem dX10_beam_133 : decode cX10_beam 133 = .ok (.ireturn, 1) := by decide +kernel
set_option maxHeartbeats 4000000 in
set_option maxRecDepth 100000 in
theorem k_X10_beam (l : Launch) (D : va_G) (cy : Nat → ClassId) {L : List Nat} {τ : Nat → Ro} {E : Ec} (hI : Inv TB cy L τ E) {a0 : Nat} (ha0 : a0 ∈ L) (ta0 : τ a0 = (11, 0)) (a1 : Int32) (a2 : Int32) (a3 : Int32) (hC : Chain L τ E) : CtI l yX10_beam wsX10_beam { frames := 2, cells := 0, slots := 0, locals := 41 } D TB cy L τ E [.ref a0, .int a1, .int a2, .int a3] (inW [(11, 0), (60, 0), (61, 0)]) (fun r E' => (∀ k : Nat, k ∉ ([2, 3, 4, 6] : List Nat) → fi E' a0 k = fi E a0 k) ∧ Chain L τ E') := by
  intro sz
  refine sta (cc := cX10_beam) (maxL := 5) hI (by decide) rfl (Nat.le_of_ble_eq_true rfl) (fun p e s m args below meth c ls hsz Z S0 hl => ?_)
  have hx := Z.1.1
  have hb := Z.1.2.1
  have hts := Z.1.2.2.2.2
  have F0_ : Fr L τ (inW [(11, 0), (60, 0), (61, 0)]) E E := Fr.refl
  have hl : lv_has ls 5 [(0, .ref a0), (1, .int a1), (2, .int a2), (3, .int a3)] := hl
  generalize hQ : MQ below _ args s 0 0 _ = QQ
  obtain ⟨qn, hqn, tqn⟩ := ref_of (k := 0) hI ha0 ta0 rfl rfl
  have tqn : τ qn = (60, 0) := tqn
  obtain ⟨qp, hqp, tqp⟩ := ref_of (k := 1) hI ha0 ta0 rfl rfl
  have tqp : τ qp = (61, 0) := tqp
  have J43 : ∀  (E_43 : Ec) (H_43 : Heap) (k_43 : List Loc) (l_43 : Array Slot), Now D TB cy (va_A (va_pl L E) sz) s L τ E_43 H_43 k_43 → Fr L τ (inW [(11, 0), (60, 0), (61, 0)]) E E_43 → (Chain L τ E_43) → (∀ k : Nat, k ∉ ([2, 3, 4, 6] : List Nat) → fi E_43 a0 k = fi E a0 k) → lv_has l_43 5 [(0, .ref a0)] → W p l e { frames := 2, cells := 0, slots := 0, locals := 41 } s m args below meth c H_43 k_43 0 0 QQ (F0 m 43 l_43 []) := by
    intro  E_43 H_43 k_43 l_43 S_43 F_43 z1 z2 hl_43
    refine lv_aload_n hx hb dX10_beam_43 rfl (lv_at hl_43 0 rfl) ?_
    obtain ⟨v3, ev3, tv3⟩ : ∃ v : Int32, Int32.ofInt (1) = v ∧ v.toInt = 1 := ⟨_, rfl, by decide +kernel⟩
    refine lv_iconst hx hb dX10_beam_44 ev3 ?_
    refine tc_vi Z.1 Z.2.2.2.1 Z.2.2.2.2.1 Z.2.2.2.2.2 S_43.1 S_43.2 ha0 ta0 rfl rfl (k_X10_no l D cy S_43.2 ha0 ta0 v3) (cwV 1 hts gX10_beam_X10_no rfl rfl rfl (by decide +kernel) ⟨Nat.le_of_ble_eq_true rfl, Nat.le_of_ble_eq_true rfl⟩) rfl hl_43.1 rfl (Nat.le_of_ble_eq_true rfl) dX10_beam_45 ⟨Nat.zero_le _, Nat.zero_le _⟩ (fun v7 E4 H5 k6 W4 I4 G4 p4 => ?_)
    obtain ⟨p4_0, p4_1, p4_2⟩ := p4
    have S4 : Now D TB cy (va_A (va_pl L E) sz) s L τ E4 H5 k6 := ⟨W4, I4⟩
    have F4 : Fr L τ (inW [(11, 0), (60, 0), (61, 0)]) E E4 := F_43.trans (G4.mono (inW_mono (by decide)))
    rw [← hQ]
    exact en_i Z S4 F4 ⟨(fun k hk => ((p4_2 k (fw_sub (by decide) hk)).trans (z2 k hk))), (Chain.same z1 S4.2 ha0 ta0 hqn tqn hqp tqp (G4 qn hqn (by rw [tqn]; rfl)) (G4 qp hqp (by rw [tqp]; rfl)) (p4_2 2 (by decide)))⟩ dX10_beam_48
  refine lv_aload_n hx hb dX10_beam_0 rfl (lv_at hl 0 rfl) ?_
  obtain ⟨v8, ev8, tv8⟩ : ∃ v : Int32, Int32.ofInt (0) = v ∧ v.toInt = 0 := ⟨_, rfl, by decide +kernel⟩
  refine lv_iconst hx hb dX10_beam_1 ev8 ?_
  refine tr_puti Z.1 Z.2.2.2.1 S0.1 S0.2 ha0 ta0 rfl rfl (fun _ h => List.mem_cons_of_mem _ (List.mem_append_right _ h)) tyX10_ok nmX10 4 (by decide) rfl rfl rfl (hts _ (List.mem_of_getElem? (i := 1) rfl)) dX10_beam_2 (by omega) (by omega) (fun E9 H10 k11 W9 I9 P9 => ?_)
  have S9 : Now D TB cy (va_A (va_pl L E) sz) s L τ E9 H10 k11 := ⟨W9, I9⟩
  have F9 : Fr L τ (inW [(11, 0), (60, 0), (61, 0)]) E E9 := Fr.put F0_ P9 ta0 rfl
  refine lv_aload_n hx hb dX10_beam_5 rfl (lv_at hl 0 rfl) ?_
  refine lv_iload_n hx hb dX10_beam_6 rfl (lv_at hl 1 rfl) ?_
  obtain ⟨v12, ev12, tv12⟩ : ∃ v : Int32, Int32.ofInt (0) = v ∧ v.toInt = 0 := ⟨_, rfl, by decide +kernel⟩
  refine lv_iconst hx hb dX10_beam_7 ev12 ?_
  obtain ⟨v13, ev13, tv13⟩ : ∃ v : Int32, (Int16.ofInt (20000)).toInt32 = v ∧ v.toInt = 20000 := ⟨_, rfl, by decide +kernel⟩
  refine lv_sipush hx hb dX10_beam_8 ev13 ?_
  refine tc_vi Z.1 Z.2.2.2.1 Z.2.2.2.2.1 Z.2.2.2.2.2 S9.1 S9.2 ha0 ta0 rfl rfl (k_X10_in l D cy S9.2 ha0 ta0 a1 v12 v13) (cwV 3 hts gX10_beam_X10_in rfl rfl rfl (by decide +kernel) ⟨Nat.le_of_ble_eq_true rfl, Nat.le_of_ble_eq_true rfl⟩) rfl hl.1 rfl (Nat.le_of_ble_eq_true rfl) dX10_beam_11 ⟨Nat.zero_le _, Nat.zero_le _⟩ (fun v17 E14 H15 k16 W14 I14 G14 p14 => ?_)
  obtain ⟨q14, p14_0, p14_1, p14_2⟩ := p14
  have q14 := q14.symm
  subst q14
  have S14 : Now D TB cy (va_A (va_pl L E) sz) s L τ E9 H15 k16 := ⟨W14, I14⟩
  refine lv_if_eq (tgt := 43) hx hb dX10_beam_14 (by decide) (fun c18 => ?_) (fun c18 => ?_)
  · skip
    have tc18 := nu_eq c18
    have uc18 : (0 : Int32).toInt = 0 := rfl
    exact J43 E9 H15 k16 ls S14 F9 (Chain.same hC S14.2 ha0 ta0 hqn tqn hqp tqp (P9.1 qn (ne_ro tqn ta0 (by decide))) (P9.1 qp (ne_ro tqp ta0 (by decide))) (fi_put P9 (Or.inr (by decide)))) (fun k hk => ((fi_put P9 (Or.inr (fw_ne (by decide) hk))).trans ((fun k hk => rfl) k hk))) (lv_sub hl [0] rfl)
  · skip
    have tc18 := nu_ne c18
    have uc18 : (0 : Int32).toInt = 0 := rfl
    refine lv_aload_n hx hb dX10_beam_17 rfl (lv_at hl 0 rfl) ?_
    refine lv_iload_n hx hb dX10_beam_18 rfl (lv_at hl 2 rfl) ?_
    refine lv_iload_n hx hb dX10_beam_19 rfl (lv_at hl 1 rfl) ?_
    obtain ⟨v19, ev19, tv19⟩ : ∃ v : Int32, Int32.ofInt (1) = v ∧ v.toInt = 1 := ⟨_, rfl, by decide +kernel⟩
    refine lv_iconst hx hb dX10_beam_20 ev19 ?_
    refine lv_iadd hx hb dX10_beam_21 ?_
    refine lv_topi (fun v20 ev20 => ?_)
    have tv20 := nu_add ev20 (by omega) (by omega)
    obtain ⟨v21, ev21, tv21⟩ : ∃ v : Int32, (Int16.ofInt (20000)).toInt32 = v ∧ v.toInt = 20000 := ⟨_, rfl, by decide +kernel⟩
    refine lv_sipush hx hb dX10_beam_22 ev21 ?_
    refine tc_vi Z.1 Z.2.2.2.1 Z.2.2.2.2.1 Z.2.2.2.2.2 S14.1 S14.2 ha0 ta0 rfl rfl (k_X10_in l D cy S14.2 ha0 ta0 a2 v20 v21) (cwV 3 hts gX10_beam_X10_in rfl rfl rfl (by decide +kernel) ⟨Nat.le_of_ble_eq_true rfl, Nat.le_of_ble_eq_true rfl⟩) rfl hl.1 rfl (Nat.le_of_ble_eq_true rfl) dX10_beam_25 ⟨Nat.zero_le _, Nat.zero_le _⟩ (fun v25 E22 H23 k24 W22 I22 G22 p22 => ?_)
    obtain ⟨q22, p22_0, p22_1, p22_2⟩ := p22
    have q22 := q22.symm
    subst q22
    have S22 : Now D TB cy (va_A (va_pl L E) sz) s L τ E9 H23 k24 := ⟨W22, I22⟩
    refine lv_if_eq (tgt := 43) hx hb dX10_beam_28 (by decide) (fun c26 => ?_) (fun c26 => ?_)
    · skip
      have tc26 := nu_eq c26
      have uc26 : (0 : Int32).toInt = 0 := rfl
      exact J43 E9 H23 k24 ls S22 F9 (Chain.same hC S22.2 ha0 ta0 hqn tqn hqp tqp (P9.1 qn (ne_ro tqn ta0 (by decide))) (P9.1 qp (ne_ro tqp ta0 (by decide))) (fi_put P9 (Or.inr (by decide)))) (fun k hk => ((fi_put P9 (Or.inr (fw_ne (by decide) hk))).trans ((fun k hk => rfl) k hk))) (lv_sub hl [0] rfl)
    · skip
      have tc26 := nu_ne c26
      have uc26 : (0 : Int32).toInt = 0 := rfl
      refine lv_aload_n hx hb dX10_beam_31 rfl (lv_at hl 0 rfl) ?_
      refine lv_iload_n hx hb dX10_beam_32 rfl (lv_at hl 3 rfl) ?_
      obtain ⟨v27, ev27, tv27⟩ : ∃ v : Int32, Int32.ofInt (0) = v ∧ v.toInt = 0 := ⟨_, rfl, by decide +kernel⟩
      refine lv_iconst hx hb dX10_beam_33 ev27 ?_
      obtain ⟨v28, ev28, tv28⟩ : ∃ v : Int32, (Int16.ofInt (9000)).toInt32 = v ∧ v.toInt = 9000 := ⟨_, rfl, by decide +kernel⟩
      refine lv_sipush hx hb dX10_beam_34 ev28 ?_
      refine tc_vi Z.1 Z.2.2.2.1 Z.2.2.2.2.1 Z.2.2.2.2.2 S22.1 S22.2 ha0 ta0 rfl rfl (k_X10_in l D cy S22.2 ha0 ta0 a3 v27 v28) (cwV 3 hts gX10_beam_X10_in rfl rfl rfl (by decide +kernel) ⟨Nat.le_of_ble_eq_true rfl, Nat.le_of_ble_eq_true rfl⟩) rfl hl.1 rfl (Nat.le_of_ble_eq_true rfl) dX10_beam_37 ⟨Nat.zero_le _, Nat.zero_le _⟩ (fun v32 E29 H30 k31 W29 I29 G29 p29 => ?_)
      obtain ⟨q29, p29_0, p29_1, p29_2⟩ := p29
      have q29 := q29.symm
      subst q29
      have S29 : Now D TB cy (va_A (va_pl L E) sz) s L τ E9 H30 k31 := ⟨W29, I29⟩
      refine lv_if_ne (tgt := 49) hx hb dX10_beam_40 (by decide) (fun c33 => ?_) (fun c33 => ?_)
      · skip
        have tc33 := nu_ne c33
        have uc33 : (0 : Int32).toInt = 0 := rfl
        refine lv_aload_n hx hb dX10_beam_49 rfl (lv_at hl 0 rfl) ?_
        refine tr_getr Z.1 Z.2.2.2.1 S29.1 S29.2 ha0 ta0 rfl rfl (fun _ h => List.mem_cons_of_mem _ (List.mem_append_right _ h)) 0 (by decide) rfl (hts _ (List.mem_of_getElem? (i := 2) rfl)) dX10_beam_50 (fun q34 eq34 hq34 tq34 => ?_)
        have tq34 : τ q34 = (60, 0) := tq34
        have uq34 : qn = q34 := S29.2.2.2.2 _ hqn _ hq34 (tqn.trans tq34.symm) (by rw [tqn]; rfl)
        subst uq34
        obtain ⟨v35, ev35, tv35⟩ : ∃ v : Int32, (Int8.ofInt (19)).toInt32 = v ∧ v.toInt = 19 := ⟨_, rfl, by decide +kernel⟩
        refine lv_bipush hx hb dX10_beam_53 ev35 ?_
        refine tr_ialdx Z.1 Z.2.2.2.1 S29.1 S29.2 hqn tqn rfl (by omega) (by omega) dX10_beam_55 (fun v36 ev36 lv36 uv36 => ?_)
        have bv36 : nowB v35.toNatClampNeg = (0, 8) := nb_19 (by show v35.toInt.toNat = 19; omega)
        rw [bv36] at lv36 uv36
        have lv36 : 0 ≤ v36.toInt := lv36
        have uv36 : v36.toInt ≤ 8 := uv36
        have av36 : ai E9 qn 19 = v36 := ai_at ev36 (by omega)
        refine lv_istore (lv' := [(4, .int v36), (0, .ref a0), (1, .int a1), (2, .int a2), (3, .int a3)]) hx hb dX10_beam_56 hl (by decide) rfl (fun l37 hl38 => ?_)
        refine lv_iload hx hb dX10_beam_58 (lv_at hl38 0 rfl) ?_
        obtain ⟨v39, ev39, tv39⟩ : ∃ v : Int32, (Int8.ofInt (8)).toInt32 = v ∧ v.toInt = 8 := ⟨_, rfl, by decide +kernel⟩
        refine lv_bipush hx hb dX10_beam_60 ev39 ?_
        refine lv_icmp_ne (tgt := 71) hx hb dX10_beam_62 (by decide) (fun c40 => ?_) (fun c40 => ?_)
        · skip
          have tc40 := nu_ne c40
          refine lv_aload_n hx hb dX10_beam_71 rfl (lv_at hl38 1 rfl) ?_
          refine tc_vv Z.1 Z.2.2.2.1 Z.2.2.2.2.1 Z.2.2.2.2.2 S29.1 S29.2 ha0 ta0 rfl rfl (k_X10_act l D cy S29.2 ha0 ta0 (Chain.same hC S29.2 ha0 ta0 hqn tqn hqp tqp (P9.1 qn (ne_ro tqn ta0 (by decide))) (P9.1 qp (ne_ro tqp ta0 (by decide))) (fi_put P9 (Or.inr (by decide))))) (cwV 0 hts gX10_beam_X10_act rfl rfl rfl (by decide +kernel) ⟨Nat.le_of_ble_eq_true rfl, Nat.le_of_ble_eq_true rfl⟩) rfl hl38.1 rfl (Nat.le_of_ble_eq_true rfl) dX10_beam_72 ⟨Nat.zero_le _, Nat.zero_le _⟩ (fun E41 H42 k43 W41 I41 G41 p41 => ?_)
          obtain ⟨p41_0, p41_1⟩ := p41
          have S41 : Now D TB cy (va_A (va_pl L E) sz) s L τ E41 H42 k43 := ⟨W41, I41⟩
          have F41 : Fr L τ (inW [(11, 0), (60, 0), (61, 0)]) E E41 := F9.trans (G41.mono (inW_mono (by decide)))
          have C45 : ∀ T : Nat → Int32, Link (ai E qn) T → ChW E41 a0 qp T := fun T hT => p41_0 qn hqn tqn qp hqp tqp T (by rw [ai_cell (P9.1 qn (ne_ro tqn ta0 (by decide)))]; exact hT)
          have B46 : ∀ j : Nat, 44 ≤ j → j ≤ 52 → ai E41 qn j = ai E qn j := fun j _ _ => ((ai_fr G41 hqn (by rw [tqn]; rfl)).trans (ai_put P9 (ne_ro tqn ta0 (by decide))))
          refine lv_aload_n hx hb dX10_beam_75 rfl (lv_at hl38 1 rfl) ?_
          refine tr_getr Z.1 Z.2.2.2.1 S41.1 S41.2 ha0 ta0 rfl rfl (fun _ h => List.mem_cons_of_mem _ (List.mem_append_right _ h)) 0 (by decide) rfl (hts _ (List.mem_of_getElem? (i := 2) rfl)) dX10_beam_76 (fun q47 eq47 hq47 tq47 => ?_)
          have tq47 : τ q47 = (60, 0) := tq47
          have uq47 : qn = q47 := S41.2.2.2.2 _ hqn _ hq47 (tqn.trans tq47.symm) (by rw [tqn]; rfl)
          subst uq47
          obtain ⟨v48, ev48, tv48⟩ : ∃ v : Int32, (Int8.ofInt (20)).toInt32 = v ∧ v.toInt = 20 := ⟨_, rfl, by decide +kernel⟩
          refine lv_bipush hx hb dX10_beam_79 ev48 ?_
          obtain ⟨v49, ev49, tv49⟩ : ∃ v : Int32, Int32.ofInt (3) = v ∧ v.toInt = 3 := ⟨_, rfl, by decide +kernel⟩
          refine lv_iconst hx hb dX10_beam_81 ev49 ?_
          refine lv_iload hx hb dX10_beam_82 (lv_at hl38 0 rfl) ?_
          refine lv_imul hx hb dX10_beam_84 ?_
          refine lv_topi (fun v50 ev50 => ?_)
          have tv50 := nu_mulc' (3) ev50 (by omega) (by omega) (by omega)
          refine lv_iadd hx hb dX10_beam_85 ?_
          refine lv_topi (fun v51 ev51 => ?_)
          have tv51 := nu_add ev51 (by omega) (by omega)
          refine lv_iload_n hx hb dX10_beam_86 rfl (lv_at hl38 2 rfl) ?_
          have b52 : nowB v51.toNatClampNeg = (-2147483648, 2147483647) := nb_o (by show v51.toInt.toNat < 4 ∨ (8 ≤ v51.toInt.toNat ∧ v51.toInt.toNat ≤ 18) ∨ (20 ≤ v51.toInt.toNat ∧ v51.toInt.toNat ≤ 43); omega)
          have b52 : (nowB v51.toNatClampNeg).1 ≤ a1.toInt ∧ a1.toInt ≤ (nowB v51.toNatClampNeg).2 := by rw [b52]; have := fb_rng a1; show -2147483648 ≤ a1.toInt ∧ a1.toInt ≤ 2147483647; omega
          refine tr_iastx Z.1 Z.2.2.2.1 S41.1 S41.2 hqn tqn rfl (by omega) (by omega) b52.1 b52.2 dX10_beam_87 (fun E52 H53 k54 W52 I52 P52 => ?_)
          have S52 : Now D TB cy (va_A (va_pl L E) sz) s L τ E52 H53 k54 := ⟨W52, I52⟩
          have F52 : Fr L τ (inW [(11, 0), (60, 0), (61, 0)]) E E52 := Fr.set F41 P52 tqn rfl
          refine lv_aload_n hx hb dX10_beam_88 rfl (lv_at hl38 1 rfl) ?_
          refine tr_getr Z.1 Z.2.2.2.1 S52.1 S52.2 ha0 ta0 rfl rfl (fun _ h => List.mem_cons_of_mem _ (List.mem_append_right _ h)) 0 (by decide) rfl (hts _ (List.mem_of_getElem? (i := 2) rfl)) dX10_beam_89 (fun q55 eq55 hq55 tq55 => ?_)
          have tq55 : τ q55 = (60, 0) := tq55
          have uq55 : qn = q55 := S52.2.2.2.2 _ hqn _ hq55 (tqn.trans tq55.symm) (by rw [tqn]; rfl)
          subst uq55
          obtain ⟨v56, ev56, tv56⟩ : ∃ v : Int32, (Int8.ofInt (20)).toInt32 = v ∧ v.toInt = 20 := ⟨_, rfl, by decide +kernel⟩
          refine lv_bipush hx hb dX10_beam_92 ev56 ?_
          obtain ⟨v57, ev57, tv57⟩ : ∃ v : Int32, Int32.ofInt (3) = v ∧ v.toInt = 3 := ⟨_, rfl, by decide +kernel⟩
          refine lv_iconst hx hb dX10_beam_94 ev57 ?_
          refine lv_iload hx hb dX10_beam_95 (lv_at hl38 0 rfl) ?_
          refine lv_imul hx hb dX10_beam_97 ?_
          refine lv_topi (fun v58 ev58 => ?_)
          have tv58 := nu_mulc' (3) ev58 (by omega) (by omega) (by omega)
          refine lv_iadd hx hb dX10_beam_98 ?_
          refine lv_topi (fun v59 ev59 => ?_)
          have tv59 := nu_add ev59 (by omega) (by omega)
          obtain ⟨v60, ev60, tv60⟩ : ∃ v : Int32, Int32.ofInt (1) = v ∧ v.toInt = 1 := ⟨_, rfl, by decide +kernel⟩
          refine lv_iconst hx hb dX10_beam_99 ev60 ?_
          refine lv_iadd hx hb dX10_beam_100 ?_
          refine lv_topi (fun v61 ev61 => ?_)
          have tv61 := nu_add ev61 (by omega) (by omega)
          refine lv_iload_n hx hb dX10_beam_101 rfl (lv_at hl38 3 rfl) ?_
          have b62 : nowB v61.toNatClampNeg = (-2147483648, 2147483647) := nb_o (by show v61.toInt.toNat < 4 ∨ (8 ≤ v61.toInt.toNat ∧ v61.toInt.toNat ≤ 18) ∨ (20 ≤ v61.toInt.toNat ∧ v61.toInt.toNat ≤ 43); omega)
          have b62 : (nowB v61.toNatClampNeg).1 ≤ a2.toInt ∧ a2.toInt ≤ (nowB v61.toNatClampNeg).2 := by rw [b62]; have := fb_rng a2; show -2147483648 ≤ a2.toInt ∧ a2.toInt ≤ 2147483647; omega
          refine tr_iastx Z.1 Z.2.2.2.1 S52.1 S52.2 hqn tqn rfl (by omega) (by omega) b62.1 b62.2 dX10_beam_102 (fun E62 H63 k64 W62 I62 P62 => ?_)
          have S62 : Now D TB cy (va_A (va_pl L E) sz) s L τ E62 H63 k64 := ⟨W62, I62⟩
          have F62 : Fr L τ (inW [(11, 0), (60, 0), (61, 0)]) E E62 := Fr.set F52 P62 tqn rfl
          refine lv_aload_n hx hb dX10_beam_103 rfl (lv_at hl38 1 rfl) ?_
          refine tr_getr Z.1 Z.2.2.2.1 S62.1 S62.2 ha0 ta0 rfl rfl (fun _ h => List.mem_cons_of_mem _ (List.mem_append_right _ h)) 0 (by decide) rfl (hts _ (List.mem_of_getElem? (i := 2) rfl)) dX10_beam_104 (fun q65 eq65 hq65 tq65 => ?_)
          have tq65 : τ q65 = (60, 0) := tq65
          have uq65 : qn = q65 := S62.2.2.2.2 _ hqn _ hq65 (tqn.trans tq65.symm) (by rw [tqn]; rfl)
          subst uq65
          obtain ⟨v66, ev66, tv66⟩ : ∃ v : Int32, (Int8.ofInt (20)).toInt32 = v ∧ v.toInt = 20 := ⟨_, rfl, by decide +kernel⟩
          refine lv_bipush hx hb dX10_beam_107 ev66 ?_
          obtain ⟨v67, ev67, tv67⟩ : ∃ v : Int32, Int32.ofInt (3) = v ∧ v.toInt = 3 := ⟨_, rfl, by decide +kernel⟩
          refine lv_iconst hx hb dX10_beam_109 ev67 ?_
          refine lv_iload hx hb dX10_beam_110 (lv_at hl38 0 rfl) ?_
          refine lv_imul hx hb dX10_beam_112 ?_
          refine lv_topi (fun v68 ev68 => ?_)
          have tv68 := nu_mulc' (3) ev68 (by omega) (by omega) (by omega)
          refine lv_iadd hx hb dX10_beam_113 ?_
          refine lv_topi (fun v69 ev69 => ?_)
          have tv69 := nu_add ev69 (by omega) (by omega)
          obtain ⟨v70, ev70, tv70⟩ : ∃ v : Int32, Int32.ofInt (2) = v ∧ v.toInt = 2 := ⟨_, rfl, by decide +kernel⟩
          refine lv_iconst hx hb dX10_beam_114 ev70 ?_
          refine lv_iadd hx hb dX10_beam_115 ?_
          refine lv_topi (fun v71 ev71 => ?_)
          have tv71 := nu_add ev71 (by omega) (by omega)
          refine lv_iload_n hx hb dX10_beam_116 rfl (lv_at hl38 4 rfl) ?_
          have b72 : nowB v71.toNatClampNeg = (-2147483648, 2147483647) := nb_o (by show v71.toInt.toNat < 4 ∨ (8 ≤ v71.toInt.toNat ∧ v71.toInt.toNat ≤ 18) ∨ (20 ≤ v71.toInt.toNat ∧ v71.toInt.toNat ≤ 43); omega)
          have b72 : (nowB v71.toNatClampNeg).1 ≤ a3.toInt ∧ a3.toInt ≤ (nowB v71.toNatClampNeg).2 := by rw [b72]; have := fb_rng a3; show -2147483648 ≤ a3.toInt ∧ a3.toInt ≤ 2147483647; omega
          refine tr_iastx Z.1 Z.2.2.2.1 S62.1 S62.2 hqn tqn rfl (by omega) (by omega) b72.1 b72.2 dX10_beam_117 (fun E72 H73 k74 W72 I72 P72 => ?_)
          have S72 : Now D TB cy (va_A (va_pl L E) sz) s L τ E72 H73 k74 := ⟨W72, I72⟩
          have F72 : Fr L τ (inW [(11, 0), (60, 0), (61, 0)]) E E72 := Fr.set F62 P72 tqn rfl
          refine lv_aload_n hx hb dX10_beam_118 rfl (lv_at hl38 1 rfl) ?_
          refine tr_getr Z.1 Z.2.2.2.1 S72.1 S72.2 ha0 ta0 rfl rfl (fun _ h => List.mem_cons_of_mem _ (List.mem_append_right _ h)) 0 (by decide) rfl (hts _ (List.mem_of_getElem? (i := 2) rfl)) dX10_beam_119 (fun q75 eq75 hq75 tq75 => ?_)
          have tq75 : τ q75 = (60, 0) := tq75
          have uq75 : qn = q75 := S72.2.2.2.2 _ hqn _ hq75 (tqn.trans tq75.symm) (by rw [tqn]; rfl)
          subst uq75
          obtain ⟨v76, ev76, tv76⟩ : ∃ v : Int32, (Int8.ofInt (19)).toInt32 = v ∧ v.toInt = 19 := ⟨_, rfl, by decide +kernel⟩
          refine lv_bipush hx hb dX10_beam_122 ev76 ?_
          refine lv_dup2_11 hx hb dX10_beam_124 rfl rfl ?_
          refine tr_ialdx Z.1 Z.2.2.2.1 S72.1 S72.2 hqn tqn rfl (by omega) (by omega) dX10_beam_125 (fun v77 ev77 lv77 uv77 => ?_)
          have bv77 : nowB v76.toNatClampNeg = (0, 8) := nb_19 (by show v76.toInt.toNat = 19; omega)
          rw [bv77] at lv77 uv77
          have lv77 : 0 ≤ v77.toInt := lv77
          have uv77 : v77.toInt ≤ 8 := uv77
          have av77 : ai E72 qn 19 = v77 := ai_at ev77 (by omega)
          have wv77 : v77 = v36 := av77.symm.trans ((ai_setk P72 (by show (19 : Nat) ≠ v71.toInt.toNat; omega)).trans ((ai_setk P62 (by show (19 : Nat) ≠ v61.toInt.toNat; omega)).trans ((ai_setk P52 (by show (19 : Nat) ≠ v51.toInt.toNat; omega)).trans ((ai_fr G41 hqn (by rw [tqn]; rfl)).trans av36))))
          have xv77 : v77.toInt = v36.toInt := by rw [wv77]
          obtain ⟨v78, ev78, tv78⟩ : ∃ v : Int32, Int32.ofInt (1) = v ∧ v.toInt = 1 := ⟨_, rfl, by decide +kernel⟩
          refine lv_iconst hx hb dX10_beam_126 ev78 ?_
          refine lv_iadd hx hb dX10_beam_127 ?_
          refine lv_topi (fun v79 ev79 => ?_)
          have tv79 := nu_add ev79 (by omega) (by omega)
          have b80 : nowB v76.toNatClampNeg = (0, 8) := nb_19 (by show v76.toInt.toNat = 19; omega)
          have b80 : (nowB v76.toNatClampNeg).1 ≤ v79.toInt ∧ v79.toInt ≤ (nowB v76.toNatClampNeg).2 := by rw [b80]; have := fb_rng v79; show 0 ≤ v79.toInt ∧ v79.toInt ≤ 8; omega
          refine tr_iastx Z.1 Z.2.2.2.1 S72.1 S72.2 hqn tqn rfl (by omega) (by omega) b80.1 b80.2 dX10_beam_128 (fun E80 H81 k82 W80 I80 P80 => ?_)
          have S80 : Now D TB cy (va_A (va_pl L E) sz) s L τ E80 H81 k82 := ⟨W80, I80⟩
          have F80 : Fr L τ (inW [(11, 0), (60, 0), (61, 0)]) E E80 := Fr.set F72 P80 tqn rfl
          refine lv_iload hx hb dX10_beam_129 (lv_at hl38 0 rfl) ?_
          obtain ⟨v83, ev83, tv83⟩ : ∃ v : Int32, Int32.ofInt (1) = v ∧ v.toInt = 1 := ⟨_, rfl, by decide +kernel⟩
          refine lv_iconst hx hb dX10_beam_131 ev83 ?_
          refine lv_iadd hx hb dX10_beam_132 ?_
          refine lv_topi (fun v84 ev84 => ?_)
          have tv84 := nu_add ev84 (by omega) (by omega)
          rw [← hQ]
          exact en_i Z S80 F80 ⟨(fun k hk => ((fi_set P80 (ne_ro ta0 tqn (by decide))).trans ((fi_set P72 (ne_ro ta0 tqn (by decide))).trans ((fi_set P62 (ne_ro ta0 tqn (by decide))).trans ((fi_set P52 (ne_ro ta0 tqn (by decide))).trans ((p41_1 k (fw_sub (by decide) hk)).trans ((fi_put P9 (Or.inr (fw_ne (by decide) hk))).trans ((fun k hk => rfl) k hk)))))))), (Chain.post C45 S80.2 ha0 ta0 hqn tqn hqp tqp ((P80.1 qp (ne_ro tqp tqn (by decide))).trans ((P72.1 qp (ne_ro tqp tqn (by decide))).trans ((P62.1 qp (ne_ro tqp tqn (by decide))).trans (P52.1 qp (ne_ro tqp tqn (by decide)))))) ((fi_set P80 (ne_ro ta0 tqn (by decide))).trans ((fi_set P72 (ne_ro ta0 tqn (by decide))).trans ((fi_set P62 (ne_ro ta0 tqn (by decide))).trans (fi_set P52 (ne_ro ta0 tqn (by decide)))))) (Link.ag (fun j h1 h2 => ((ai_setk P80 (by show j ≠ v76.toInt.toNat; omega)).trans ((ai_setk P72 (by show j ≠ v71.toInt.toNat; omega)).trans ((ai_setk P62 (by show j ≠ v61.toInt.toNat; omega)).trans ((ai_setk P52 (by show j ≠ v51.toInt.toNat; omega)).trans (B46 j h1 h2))))))))⟩ dX10_beam_133
        · skip
          have tc40 := nu_eq c40
          refine lv_aload_n hx hb dX10_beam_65 rfl (lv_at hl38 1 rfl) ?_
          obtain ⟨v85, ev85, tv85⟩ : ∃ v : Int32, Int32.ofInt (3) = v ∧ v.toInt = 3 := ⟨_, rfl, by decide +kernel⟩
          refine lv_iconst hx hb dX10_beam_66 ev85 ?_
          refine tc_vi Z.1 Z.2.2.2.1 Z.2.2.2.2.1 Z.2.2.2.2.2 S29.1 S29.2 ha0 ta0 rfl rfl (k_X10_no l D cy S29.2 ha0 ta0 v85) (cwV 1 hts gX10_beam_X10_no rfl rfl rfl (by decide +kernel) ⟨Nat.le_of_ble_eq_true rfl, Nat.le_of_ble_eq_true rfl⟩) rfl hl38.1 rfl (Nat.le_of_ble_eq_true rfl) dX10_beam_67 ⟨Nat.zero_le _, Nat.zero_le _⟩ (fun v89 E86 H87 k88 W86 I86 G86 p86 => ?_)
          obtain ⟨p86_0, p86_1, p86_2⟩ := p86
          have S86 : Now D TB cy (va_A (va_pl L E) sz) s L τ E86 H87 k88 := ⟨W86, I86⟩
          have F86 : Fr L τ (inW [(11, 0), (60, 0), (61, 0)]) E E86 := F9.trans (G86.mono (inW_mono (by decide)))
          rw [← hQ]
          exact en_i Z S86 F86 ⟨(fun k hk => ((p86_2 k (fw_sub (by decide) hk)).trans ((fi_put P9 (Or.inr (fw_ne (by decide) hk))).trans ((fun k hk => rfl) k hk)))), (Chain.same hC S86.2 ha0 ta0 hqn tqn hqp tqp ((G86 qn hqn (by rw [tqn]; rfl)).trans (P9.1 qn (ne_ro tqn ta0 (by decide)))) ((G86 qp hqp (by rw [tqp]; rfl)).trans (P9.1 qp (ne_ro tqp ta0 (by decide)))) ((p86_2 2 (by decide)).trans (fi_put P9 (Or.inr (by decide)))))⟩ dX10_beam_70
      · skip
        have tc33 := nu_eq c33
        have uc33 : (0 : Int32).toInt = 0 := rfl
        exact J43 E9 H30 k31 ls S29 F9 (Chain.same hC S29.2 ha0 ta0 hqn tqn hqp tqp (P9.1 qn (ne_ro tqn ta0 (by decide))) (P9.1 qp (ne_ro tqp ta0 (by decide))) (fi_put P9 (Or.inr (by decide)))) (fun k hk => ((fi_put P9 (Or.inr (fw_ne (by decide) hk))).trans ((fun k hk => rfl) k hk))) (lv_sub hl [0] rfl)

