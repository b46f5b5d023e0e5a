set_option maxRecDepth 20000 in
theorem ggX6_layTurn_X6_put : GoodIn wsX6_layTurn wsX6_put := goodIn_r _ [9, 10, 11, 39, 40, 41, 42, 43] (by decide +kernel) (by decide +kernel)
set_option maxRecDepth 20000 in
theorem gX6_layTurn_X6_put : GoodIn wsX6_layTurn (wsV RX6 72 RX6 yX6_put wsX6_put) := goodIn_app (goodIn_of _ (by decide +kernel)) ggX6_layTurn_X6_put
set_option maxRecDepth 20000 in
theorem ggX6_layTurn_X9_share : GoodIn wsX6_layTurn wsX9_share := goodIn_r _ [14] (by decide +kernel) (by decide +kernel)
set_option maxRecDepth 20000 in
theorem gX6_layTurn_X9_share_n65 : GoodIn wsX6_layTurn (wsX9_share) := ggX6_layTurn_X9_share
set_option maxRecDepth 20000 in
theorem ggX6_layTurn_X6_add : GoodIn wsX6_layTurn wsX6_add := goodIn_r _ [18, 10, 19, 20, 21, 11, 22, 2, 12, 13, 14, 39, 40, 41, 42, 43, 23, 24, 25, 26, 27, 28, 29, 30, 31, 32, 33, 34, 35, 36, 37, 38] (by decide +kernel) (by decide +kernel)
set_option maxRecDepth 20000 in
theorem gX6_layTurn_X6_add : GoodIn wsX6_layTurn (wsV RX6 76 RX6 yX6_add wsX6_add) := goodIn_app (goodIn_of _ (by decide +kernel)) ggX6_layTurn_X6_add
theorem dX6_layTurn_0 : decode cX6_layTurn 0 = .ok (.aload_n 1, 1) := by decide +kernel
theorem dX6_layTurn_1 : decode cX6_layTurn 1 = .ok (.getfield 79, 3) := by decide +kernel
theorem dX6_layTurn_4 : decode cX6_layTurn 4 = .ok (.iload_n 2, 1) := by decide +kernel
theorem dX6_layTurn_5 : decode cX6_layTurn 5 = .ok (.iaload, 1) := by decide +kernel
theorem dX6_layTurn_6 : decode cX6_layTurn 6 = .ok (.ifCond .ne 7, 3) := by decide +kernel
theorem dX6_layTurn_9 : decode cX6_layTurn 9 = .ok (.iconst 1, 1) := by decide +kernel
theorem dX6_layTurn_10 : decode cX6_layTurn 10 = .ok (.goto 4, 3) := by decide +kernel
theorem dX6_layTurn_13 : decode cX6_layTurn 13 = .ok (.iconst 0, 1) := by decide +kernel
theorem dX6_layTurn_14 : decode cX6_layTurn 14 = .ok (.istore_n 3, 1) := by decide +kernel
theorem dX6_layTurn_15 : decode cX6_layTurn 15 = .ok (.iload_n 3, 1) := by decide +kernel
theorem dX6_layTurn_16 : decode cX6_layTurn 16 = .ok (.ifCond .eq 7, 3) := by decide +kernel
theorem dX6_layTurn_19 : decode cX6_layTurn 19 = .ok (.iconst 1, 1) := by decide +kernel
theorem dX6_layTurn_20 : decode cX6_layTurn 20 = .ok (.goto 4, 3) := by decide +kernel
theorem dX6_layTurn_23 : decode cX6_layTurn 23 = .ok (.iconst 3, 1) := by decide +kernel
theorem dX6_layTurn_24 : decode cX6_layTurn 24 = .ok (.istore 4, 2) := by decide +kernel
theorem dX6_layTurn_26 : decode cX6_layTurn 26 = .ok (.iload_n 3, 1) := by decide +kernel
theorem dX6_layTurn_27 : decode cX6_layTurn 27 = .ok (.ifCond .eq 10, 3) := by decide +kernel
theorem dX6_layTurn_30 : decode cX6_layTurn 30 = .ok (.aload_n 1, 1) := by decide +kernel
theorem dX6_layTurn_31 : decode cX6_layTurn 31 = .ok (.getfield 82, 3) := by decide +kernel
theorem dX6_layTurn_34 : decode cX6_layTurn 34 = .ok (.goto 13, 3) := by decide +kernel
theorem dX6_layTurn_37 : decode cX6_layTurn 37 = .ok (.aload_n 1, 1) := by decide +kernel
theorem dX6_layTurn_38 : decode cX6_layTurn 38 = .ok (.getfield 85, 3) := by decide +kernel
theorem dX6_layTurn_41 : decode cX6_layTurn 41 = .ok (.bipush 11, 2) := by decide +kernel
theorem dX6_layTurn_43 : decode cX6_layTurn 43 = .ok (.imul, 1) := by decide +kernel
theorem dX6_layTurn_44 : decode cX6_layTurn 44 = .ok (.bipush 7, 2) := by decide +kernel
theorem dX6_layTurn_46 : decode cX6_layTurn 46 = .ok (.idiv, 1) := by decide +kernel
theorem dX6_layTurn_47 : decode cX6_layTurn 47 = .ok (.istore 5, 2) := by decide +kernel
theorem dX6_layTurn_49 : decode cX6_layTurn 49 = .ok (.iload_n 3, 1) := by decide +kernel
theorem dX6_layTurn_50 : decode cX6_layTurn 50 = .ok (.ifCond .eq 10, 3) := by decide +kernel
theorem dX6_layTurn_53 : decode cX6_layTurn 53 = .ok (.aload_n 1, 1) := by decide +kernel
theorem dX6_layTurn_54 : decode cX6_layTurn 54 = .ok (.getfield 82, 3) := by decide +kernel
theorem dX6_layTurn_57 : decode cX6_layTurn 57 = .ok (.goto 13, 3) := by decide +kernel
theorem dX6_layTurn_60 : decode cX6_layTurn 60 = .ok (.aload_n 1, 1) := by decide +kernel
theorem dX6_layTurn_61 : decode cX6_layTurn 61 = .ok (.getfield 88, 3) := by decide +kernel
theorem dX6_layTurn_64 : decode cX6_layTurn 64 = .ok (.bipush 11, 2) := by decide +kernel
theorem dX6_layTurn_66 : decode cX6_layTurn 66 = .ok (.imul, 1) := by decide +kernel
theorem dX6_layTurn_67 : decode cX6_layTurn 67 = .ok (.bipush 7, 2) := by decide +kernel
theorem dX6_layTurn_69 : decode cX6_layTurn 69 = .ok (.idiv, 1) := by decide +kernel
theorem dX6_layTurn_70 : decode cX6_layTurn 70 = .ok (.istore 6, 2) := by decide +kernel
theorem dX6_layTurn_72 : decode cX6_layTurn 72 = .ok (.iconst 0, 1) := by decide +kernel
theorem dX6_layTurn_73 : decode cX6_layTurn 73 = .ok (.istore 7, 2) := by decide +kernel
theorem dX6_layTurn_75 : decode cX6_layTurn 75 = .ok (.iload 7, 2) := by decide +kernel
theorem dX6_layTurn_77 : decode cX6_layTurn 77 = .ok (.iload 4, 2) := by decide +kernel
theorem dX6_layTurn_79 : decode cX6_layTurn 79 = .ok (.if_icmp .ge 65, 3) := by decide +kernel
theorem dX6_layTurn_82 : decode cX6_layTurn 82 = .ok (.aload_n 0, 1) := by decide +kernel
theorem dX6_layTurn_83 : decode cX6_layTurn 83 = .ok (.bipush 7, 2) := by decide +kernel
theorem dX6_layTurn_85 : decode cX6_layTurn 85 = .ok (.iconst (-1), 1) := by decide +kernel
theorem dX6_layTurn_86 : decode cX6_layTurn 86 = .ok (.invokevirtual 72, 3) := by decide +kernel
theorem dX6_layTurn_89 : decode cX6_layTurn 89 = .ok (.aload_n 0, 1) := by decide +kernel
theorem dX6_layTurn_90 : decode cX6_layTurn 90 = .ok (.bipush 8, 2) := by decide +kernel
theorem dX6_layTurn_92 : decode cX6_layTurn 92 = .ok (.iload_n 2, 1) := by decide +kernel
theorem dX6_layTurn_93 : decode cX6_layTurn 93 = .ok (.invokevirtual 72, 3) := by decide +kernel
theorem dX6_layTurn_96 : decode cX6_layTurn 96 = .ok (.aload_n 0, 1) := by decide +kernel
theorem dX6_layTurn_97 : decode cX6_layTurn 97 = .ok (.iconst 4, 1) := by decide +kernel
theorem dX6_layTurn_98 : decode cX6_layTurn 98 = .ok (.iload 6, 2) := by decide +kernel
theorem dX6_layTurn_100 : decode cX6_layTurn 100 = .ok (.iload 4, 2) := by decide +kernel
theorem dX6_layTurn_102 : decode cX6_layTurn 102 = .ok (.iload 7, 2) := by decide +kernel
theorem dX6_layTurn_104 : decode cX6_layTurn 104 = .ok (.invokestatic 65, 3) := by decide +kernel
theorem dX6_layTurn_107 : decode cX6_layTurn 107 = .ok (.invokevirtual 72, 3) := by decide +kernel
theorem dX6_layTurn_110 : decode cX6_layTurn 110 = .ok (.aload_n 0, 1) := by decide +kernel
theorem dX6_layTurn_111 : decode cX6_layTurn 111 = .ok (.iconst 0, 1) := by decide +kernel
theorem dX6_layTurn_112 : decode cX6_layTurn 112 = .ok (.iload_n 3, 1) := by decide +kernel
theorem dX6_layTurn_113 : decode cX6_layTurn 113 = .ok (.ifCond .eq 7, 3) := by decide +kernel
theorem dX6_layTurn_116 : decode cX6_layTurn 116 = .ok (.iconst 2, 1) := by decide +kernel
theorem dX6_layTurn_117 : decode cX6_layTurn 117 = .ok (.goto 4, 3) := by decide +kernel
theorem dX6_layTurn_120 : decode cX6_layTurn 120 = .ok (.iconst 3, 1) := by decide +kernel
theorem dX6_layTurn_121 : decode cX6_layTurn 121 = .ok (.invokevirtual 72, 3) := by decide +kernel
theorem dX6_layTurn_124 : decode cX6_layTurn 124 = .ok (.aload_n 0, 1) := by decide +kernel
theorem dX6_layTurn_125 : decode cX6_layTurn 125 = .ok (.aload_n 1, 1) := by decide +kernel
theorem dX6_layTurn_126 : decode cX6_layTurn 126 = .ok (.iload 5, 2) := by decide +kernel
theorem dX6_layTurn_128 : decode cX6_layTurn 128 = .ok (.iload 4, 2) := by decide +kernel
theorem dX6_layTurn_130 : decode cX6_layTurn 130 = .ok (.iload 7, 2) := by decide +kernel
theorem dX6_layTurn_132 : decode cX6_layTurn 132 = .ok (.invokestatic 65, 3) := by decide +kernel
theorem dX6_layTurn_135 : decode cX6_layTurn 135 = .ok (.invokevirtual 76, 3) := by decide +kernel
theorem dX6_layTurn_138 : decode cX6_layTurn 138 = .ok (.iinc 7 1, 3) := by decide +kernel
theorem dX6_layTurn_141 : decode cX6_layTurn 141 = .ok (.goto (-66), 3) := by decide +kernel
theorem dX6_layTurn_144 : decode cX6_layTurn 144 = .ok (.return_, 1) := by decide +kernel
set_option maxHeartbeats 4000000 in
set_option maxRecDepth 100000 in
theorem k_X6_layTurn_v0 (l : Launch) (D : va_G) (cy : Nat → ClassId) {L : List Nat} {τ : Nat → Ro} {E : Ec} (hI : Inv TB cy L τ E) {a0 : Nat} (ha0 : a0 ∈ L) (ta0 : τ a0 = (5, 0)) {a1 : Nat} (ha1 : a1 ∈ L) (ta1 : τ a1 = (1, 0)) (a2 : Int32) (la2 : 0 ≤ a2.toInt) (ua2 : a2.toInt ≤ 1) : CtV l yX6_layTurn wsX6_layTurn { frames := 2, cells := 0, slots := 0, locals := 45 } D TB cy L τ E [.ref a0, .ref a1, .int a2] (inW [(5, 0), (100, 0), (101, 0), (102, 0), (103, 0), (104, 0), (105, 0), (106, 0), (107, 0), (108, 0), (109, 0), (110, 0), (111, 0), (112, 0)]) (fun E' => True) := by
  intro sz
  refine sta (cc := cX6_layTurn) (maxL := 8) hI (by decide) rfl (Nat.le_of_ble_eq_true rfl) (fun p e s m args below meth c ls hsz Z S0 hl => ?_)
  have hx := Z.1.1
  have hb := Z.1.2.1
  have hts := Z.1.2.2.2.2
  have F0_ : Fr L τ (inW [(5, 0), (100, 0), (101, 0), (102, 0), (103, 0), (104, 0), (105, 0), (106, 0), (107, 0), (108, 0), (109, 0), (110, 0), (111, 0), (112, 0)]) E E := Fr.refl
  have hl : lv_has ls 8 [(0, .ref a0), (1, .ref a1), (2, .int a2)] := hl
  generalize hQ : MQ below _ args s 0 0 _ = QQ
  have J75 : ∀ (n : Nat) (x3_75 : Int32) (x4_75 : Int32) (x5_75 : Int32) (x6_75 : Int32) (x7_75 : Int32) (E_75 : Ec) (H_75 : Heap) (k_75 : List Loc) (l_75 : Array Slot), Now D TB cy (va_A (va_pl L E) sz) s L τ E_75 H_75 k_75 → Fr L τ (inW [(5, 0), (100, 0), (101, 0), (102, 0), (103, 0), (104, 0), (105, 0), (106, 0), (107, 0), (108, 0), (109, 0), (110, 0), (111, 0), (112, 0)]) E E_75 → (0 ≤ a2.toInt) → (a2.toInt ≤ 1) → (0 ≤ x3_75.toInt) → (x3_75.toInt ≤ 1) → (1 ≤ x4_75.toInt) → (x4_75.toInt ≤ 3) → (0 ≤ x7_75.toInt) → (x7_75.toInt ≤ 3) → (3 - x7_75.toInt).toNat < n → lv_has l_75 8 [(0, .ref a0), (1, .ref a1), (2, .int a2), (3, .int x3_75), (4, .int x4_75), (5, .int x5_75), (6, .int x6_75), (7, .int x7_75)] → W p l e { frames := 2, cells := 0, slots := 0, locals := 45 } s m args below meth c H_75 k_75 0 0 QQ (F0 m 75 l_75 []) := by
    intro n
    induction n with
    | zero => intro x3_75 x4_75 x5_75 x6_75 x7_75 E_75 H_75 k_75 l_75 S_75 F_75 z1 z2 z3 z4 z5 z6 z7 z8 hm hl_75; exact absurd hm (Nat.not_lt_zero _)
    | succ n ih =>
      intro x3_75 x4_75 x5_75 x6_75 x7_75 E_75 H_75 k_75 l_75 S_75 F_75 z1 z2 z3 z4 z5 z6 z7 z8 hm hl_75
      have ih_75 := ih
      have J121 : ∀ (y0_121 : Nat) (y1_121 : Int32) (y2_121 : Int32) (E_121 : Ec) (H_121 : Heap) (k_121 : List Loc) (l_121 : Array Slot), Now D TB cy (va_A (va_pl L E) sz) s L τ E_121 H_121 k_121 → Fr L τ (inW [(5, 0), (100, 0), (101, 0), (102, 0), (103, 0), (104, 0), (105, 0), (106, 0), (107, 0), (108, 0), (109, 0), (110, 0), (111, 0), (112, 0)]) E E_121 → (0 ≤ a2.toInt) → (a2.toInt ≤ 1) → (0 ≤ x3_75.toInt) → (x3_75.toInt ≤ 1) → (1 ≤ x4_75.toInt) → (x4_75.toInt ≤ 3) → (0 ≤ x7_75.toInt) → (x7_75.toInt ≤ 2) → (y0_121 ∈ L) → (τ y0_121 = (5, 0)) → (0 ≤ y1_121.toInt) → (y1_121.toInt ≤ 0) → (2 ≤ y2_121.toInt) → (y2_121.toInt ≤ 3) → lv_has l_121 8 [(0, .ref a0), (1, .ref a1), (2, .int a2), (3, .int x3_75), (4, .int x4_75), (5, .int x5_75), (6, .int x6_75), (7, .int x7_75)] → W p l e { frames := 2, cells := 0, slots := 0, locals := 45 } s m args below meth c H_121 k_121 0 0 QQ (F0 m 121 l_121 [.int y2_121, .int y1_121, .ref y0_121]) := by
        intro y0_121 y1_121 y2_121 E_121 H_121 k_121 l_121 S_121 F_121 z9 z10 z11 z12 z13 z14 z15 z16 z17 z18 z19 z20 z21 z22 hl_121
        refine tc_vv Z.1 Z.2.2.2.1 Z.2.2.2.2.1 Z.2.2.2.2.2 S_121.1 S_121.2 z17 z18 rfl rfl (k_X6_put_v0_0 l D cy S_121.2 z17 z18 y1_121 (by omega) (by omega) y2_121 (by omega) (by omega)) (cwV 2 hts gX6_layTurn_X6_put rfl rfl rfl (by decide +kernel) ⟨Nat.le_of_ble_eq_true rfl, Nat.le_of_ble_eq_true rfl⟩) rfl hl_121.1 rfl (Nat.le_of_ble_eq_true rfl) dX6_layTurn_121 ⟨Nat.zero_le _, Nat.zero_le _⟩ (fun E23 H24 k25 W23 I23 G23 p23 => ?_)
        have S23 : Now D TB cy (va_A (va_pl L E) sz) s L τ E23 H24 k25 := ⟨W23, I23⟩
        have F23 : Fr L τ (inW [(5, 0), (100, 0), (101, 0), (102, 0), (103, 0), (104, 0), (105, 0), (106, 0), (107, 0), (108, 0), (109, 0), (110, 0), (111, 0), (112, 0)]) E E23 := F_121.trans (G23.mono (inW_mono (by decide)))
        refine lv_aload_n hx hb dX6_layTurn_124 rfl (lv_at hl_121 0 rfl) ?_
        refine lv_aload_n hx hb dX6_layTurn_125 rfl (lv_at hl_121 1 rfl) ?_
        refine lv_iload hx hb dX6_layTurn_126 (lv_at hl_121 5 rfl) ?_
        refine lv_iload hx hb dX6_layTurn_128 (lv_at hl_121 4 rfl) ?_
        refine lv_iload hx hb dX6_layTurn_130 (lv_at hl_121 7 rfl) ?_
        refine tc_sni Z.1 Z.2.2.2.1 Z.2.2.2.2.1 Z.2.2.2.2.2 S23.1 (k_X9_share l D cy S23.2 x5_75 x4_75 x7_75) ⟨va_cnB (host := RX9) 3 hts gX6_layTurn_X9_share_n65 rfl rfl rfl (Z.2.2.2.2.1 _ (by decide +kernel)) (hts _ (List.mem_of_getElem? (i := 13) rfl)) (by decide +kernel) ⟨Nat.le_of_ble_eq_true rfl, Nat.le_of_ble_eq_true rfl⟩, hts _ (List.mem_of_getElem? (i := 12) rfl), trivial⟩ rfl hl_121.1 rfl (Nat.le_of_ble_eq_true rfl) dX6_layTurn_132 ⟨Nat.zero_le _, Nat.zero_le _⟩ (fun v30 E27 H28 k29 W27 I27 G27 p27 => ?_)
        have q27 := p27
        have q27 := q27.symm
        subst q27
        have S27 : Now D TB cy (va_A (va_pl L E) sz) s L τ E23 H28 k29 := ⟨W27, I27⟩
        refine tc_vv Z.1 Z.2.2.2.1 Z.2.2.2.2.1 Z.2.2.2.2.2 S27.1 S27.2 ha0 ta0 rfl rfl (k_X6_add_v0 l D cy S27.2 ha0 ta0 ha1 ta1 v30) (cwV 2 hts gX6_layTurn_X6_add rfl rfl rfl (by decide +kernel) ⟨Nat.le_of_ble_eq_true rfl, Nat.le_of_ble_eq_true rfl⟩) rfl hl_121.1 rfl (Nat.le_of_ble_eq_true rfl) dX6_layTurn_135 ⟨Nat.zero_le _, Nat.zero_le _⟩ (fun E31 H32 k33 W31 I31 G31 p31 => ?_)
        have S31 : Now D TB cy (va_A (va_pl L E) sz) s L τ E31 H32 k33 := ⟨W31, I31⟩
        have F31 : Fr L τ (inW [(5, 0), (100, 0), (101, 0), (102, 0), (103, 0), (104, 0), (105, 0), (106, 0), (107, 0), (108, 0), (109, 0), (110, 0), (111, 0), (112, 0)]) E E31 := F23.trans (G31.mono (inW_mono (by decide)))
        obtain ⟨v35, ev35⟩ : ∃ y : Int32, x7_75 + Int32.ofInt (1) = y := ⟨_, rfl⟩
        have tv35 : v35.toInt = x7_75.toInt + (1) := by rw [← ev35]; exact (fb_addI (by rw [show (Int32.ofInt (1)).toInt = 1 from by decide +kernel]; omega) (by rw [show (Int32.ofInt (1)).toInt = 1 from by decide +kernel]; omega)).trans (by rw [show (Int32.ofInt (1)).toInt = 1 from by decide +kernel])
        refine lv_iinc (v := v35) (lv' := [(7, .int v35), (0, .ref a0), (1, .ref a1), (2, .int a2), (3, .int x3_75), (4, .int x4_75), (5, .int x5_75), (6, .int x6_75)]) hx hb dX6_layTurn_138 hl_121 (k := 7) rfl ev35 (by decide) rfl (fun l36 hl37 => ?_)
        refine lv_goto (tgt := 75) hx hb dX6_layTurn_141 (by decide) ?_
        exact ih_75 x3_75 x4_75 x5_75 x6_75 v35 E31 H32 k33 l36 S31 F31 (by have := fb_rng x5_75; have := fb_rng x6_75; omega) (by have := fb_rng x5_75; have := fb_rng x6_75; omega) (by have := fb_rng x5_75; have := fb_rng x6_75; omega) (by have := fb_rng x5_75; have := fb_rng x6_75; omega) (by have := fb_rng x5_75; have := fb_rng x6_75; omega) (by have := fb_rng x5_75; have := fb_rng x6_75; omega) (by have := fb_rng x5_75; have := fb_rng x6_75; omega) (by have := fb_rng x5_75; have := fb_rng x6_75; omega) (by omega) (lv_sub hl37 [1, 2, 3, 4, 5, 6, 7, 0] rfl)
      refine lv_iload hx hb dX6_layTurn_75 (lv_at hl_75 7 rfl) ?_
      refine lv_iload hx hb dX6_layTurn_77 (lv_at hl_75 4 rfl) ?_
      refine lv_icmp_ge (tgt := 144) hx hb dX6_layTurn_79 (by decide) (fun c38 => ?_) (fun c38 => ?_)
      · skip
        have tc38 := nu_le c38
        rw [← hQ]
        exact en_v Z S_75 F_75 trivial dX6_layTurn_144
      · skip
        have tc38 := nu_nle c38
        refine lv_aload_n hx hb dX6_layTurn_82 rfl (lv_at hl_75 0 rfl) ?_
        obtain ⟨v39, ev39, tv39⟩ : ∃ v : Int32, (Int8.ofInt (7)).toInt32 = v ∧ v.toInt = 7 := ⟨_, rfl, by decide +kernel⟩
        refine lv_bipush hx hb dX6_layTurn_83 ev39 ?_
        obtain ⟨v40, ev40, tv40⟩ : ∃ v : Int32, Int32.ofInt (-1) = v ∧ v.toInt = -1 := ⟨_, rfl, by decide +kernel⟩
        refine lv_iconst hx hb dX6_layTurn_85 ev40 ?_
        refine tc_vv Z.1 Z.2.2.2.1 Z.2.2.2.2.1 Z.2.2.2.2.2 S_75.1 S_75.2 ha0 ta0 rfl rfl (k_X6_put_v0_7 l D cy S_75.2 ha0 ta0 v39 (by omega) (by omega) v40) (cwV 2 hts gX6_layTurn_X6_put rfl rfl rfl (by decide +kernel) ⟨Nat.le_of_ble_eq_true rfl, Nat.le_of_ble_eq_true rfl⟩) rfl hl_75.1 rfl (Nat.le_of_ble_eq_true rfl) dX6_layTurn_86 ⟨Nat.zero_le _, Nat.zero_le _⟩ (fun E41 H42 k43 W41 I41 G41 p41 => ?_)
        have S41 : Now D TB cy (va_A (va_pl L E) sz) s L τ E41 H42 k43 := ⟨W41, I41⟩
        have F41 : Fr L τ (inW [(5, 0), (100, 0), (101, 0), (102, 0), (103, 0), (104, 0), (105, 0), (106, 0), (107, 0), (108, 0), (109, 0), (110, 0), (111, 0), (112, 0)]) E E41 := F_75.trans (G41.mono (inW_mono (by decide)))
        refine lv_aload_n hx hb dX6_layTurn_89 rfl (lv_at hl_75 0 rfl) ?_
        obtain ⟨v45, ev45, tv45⟩ : ∃ v : Int32, (Int8.ofInt (8)).toInt32 = v ∧ v.toInt = 8 := ⟨_, rfl, by decide +kernel⟩
        refine lv_bipush hx hb dX6_layTurn_90 ev45 ?_
        refine lv_iload_n hx hb dX6_layTurn_92 rfl (lv_at hl_75 2 rfl) ?_
        refine tc_vv Z.1 Z.2.2.2.1 Z.2.2.2.2.1 Z.2.2.2.2.2 S41.1 S41.2 ha0 ta0 rfl rfl (k_X6_put_v0_8 l D cy S41.2 ha0 ta0 v45 (by omega) (by omega) a2) (cwV 2 hts gX6_layTurn_X6_put rfl rfl rfl (by decide +kernel) ⟨Nat.le_of_ble_eq_true rfl, Nat.le_of_ble_eq_true rfl⟩) rfl hl_75.1 rfl (Nat.le_of_ble_eq_true rfl) dX6_layTurn_93 ⟨Nat.zero_le _, Nat.zero_le _⟩ (fun E46 H47 k48 W46 I46 G46 p46 => ?_)
        have S46 : Now D TB cy (va_A (va_pl L E) sz) s L τ E46 H47 k48 := ⟨W46, I46⟩
        have F46 : Fr L τ (inW [(5, 0), (100, 0), (101, 0), (102, 0), (103, 0), (104, 0), (105, 0), (106, 0), (107, 0), (108, 0), (109, 0), (110, 0), (111, 0), (112, 0)]) E E46 := F41.trans (G46.mono (inW_mono (by decide)))
        refine lv_aload_n hx hb dX6_layTurn_96 rfl (lv_at hl_75 0 rfl) ?_
        obtain ⟨v50, ev50, tv50⟩ : ∃ v : Int32, Int32.ofInt (4) = v ∧ v.toInt = 4 := ⟨_, rfl, by decide +kernel⟩
        refine lv_iconst hx hb dX6_layTurn_97 ev50 ?_
        refine lv_iload hx hb dX6_layTurn_98 (lv_at hl_75 6 rfl) ?_
        refine lv_iload hx hb dX6_layTurn_100 (lv_at hl_75 4 rfl) ?_
        refine lv_iload hx hb dX6_layTurn_102 (lv_at hl_75 7 rfl) ?_
        refine tc_sni Z.1 Z.2.2.2.1 Z.2.2.2.2.1 Z.2.2.2.2.2 S46.1 (k_X9_share l D cy S46.2 x6_75 x4_75 x7_75) ⟨va_cnB (host := RX9) 3 hts gX6_layTurn_X9_share_n65 rfl rfl rfl (Z.2.2.2.2.1 _ (by decide +kernel)) (hts _ (List.mem_of_getElem? (i := 13) rfl)) (by decide +kernel) ⟨Nat.le_of_ble_eq_true rfl, Nat.le_of_ble_eq_true rfl⟩, hts _ (List.mem_of_getElem? (i := 12) rfl), trivial⟩ rfl hl_75.1 rfl (Nat.le_of_ble_eq_true rfl) dX6_layTurn_104 ⟨Nat.zero_le _, Nat.zero_le _⟩ (fun v54 E51 H52 k53 W51 I51 G51 p51 => ?_)
        have q51 := p51
        have q51 := q51.symm
        subst q51
        have S51 : Now D TB cy (va_A (va_pl L E) sz) s L τ E46 H52 k53 := ⟨W51, I51⟩
        refine tc_vv Z.1 Z.2.2.2.1 Z.2.2.2.2.1 Z.2.2.2.2.2 S51.1 S51.2 ha0 ta0 rfl rfl (k_X6_put_v0_4 l D cy S51.2 ha0 ta0 v50 (by omega) (by omega) v54) (cwV 2 hts gX6_layTurn_X6_put rfl rfl rfl (by decide +kernel) ⟨Nat.le_of_ble_eq_true rfl, Nat.le_of_ble_eq_true rfl⟩) rfl hl_75.1 rfl (Nat.le_of_ble_eq_true rfl) dX6_layTurn_107 ⟨Nat.zero_le _, Nat.zero_le _⟩ (fun E55 H56 k57 W55 I55 G55 p55 => ?_)
        have S55 : Now D TB cy (va_A (va_pl L E) sz) s L τ E55 H56 k57 := ⟨W55, I55⟩
        have F55 : Fr L τ (inW [(5, 0), (100, 0), (101, 0), (102, 0), (103, 0), (104, 0), (105, 0), (106, 0), (107, 0), (108, 0), (109, 0), (110, 0), (111, 0), (112, 0)]) E E55 := F46.trans (G55.mono (inW_mono (by decide)))
        refine lv_aload_n hx hb dX6_layTurn_110 rfl (lv_at hl_75 0 rfl) ?_
        obtain ⟨v59, ev59, tv59⟩ : ∃ v : Int32, Int32.ofInt (0) = v ∧ v.toInt = 0 := ⟨_, rfl, by decide +kernel⟩
        refine lv_iconst hx hb dX6_layTurn_111 ev59 ?_
        refine lv_iload_n hx hb dX6_layTurn_112 rfl (lv_at hl_75 3 rfl) ?_
        refine lv_if_eq (tgt := 120) hx hb dX6_layTurn_113 (by decide) (fun c60 => ?_) (fun c60 => ?_)
        · skip
          have tc60 := nu_eq c60
          have uc60 : (0 : Int32).toInt = 0 := rfl
          obtain ⟨v61, ev61, tv61⟩ : ∃ v : Int32, Int32.ofInt (3) = v ∧ v.toInt = 3 := ⟨_, rfl, by decide +kernel⟩
          refine lv_iconst hx hb dX6_layTurn_120 ev61 ?_
          exact J121 a0 v59 v61 E55 H56 k57 l_75 S55 F55 (by have := fb_rng x5_75; have := fb_rng x6_75; omega) (by have := fb_rng x5_75; have := fb_rng x6_75; omega) (by have := fb_rng x5_75; have := fb_rng x6_75; omega) (by have := fb_rng x5_75; have := fb_rng x6_75; omega) (by have := fb_rng x5_75; have := fb_rng x6_75; omega) (by have := fb_rng x5_75; have := fb_rng x6_75; omega) (by have := fb_rng x5_75; have := fb_rng x6_75; omega) (by have := fb_rng x5_75; have := fb_rng x6_75; omega) ha0 ta0 (by have := fb_rng x5_75; have := fb_rng x6_75; omega) (by have := fb_rng x5_75; have := fb_rng x6_75; omega) (by have := fb_rng x5_75; have := fb_rng x6_75; omega) (by have := fb_rng x5_75; have := fb_rng x6_75; omega) (lv_sub hl_75 [0, 1, 2, 3, 4, 5, 6, 7] rfl)
        · skip
          have tc60 := nu_ne c60
          have uc60 : (0 : Int32).toInt = 0 := rfl
          obtain ⟨v62, ev62, tv62⟩ : ∃ v : Int32, Int32.ofInt (2) = v ∧ v.toInt = 2 := ⟨_, rfl, by decide +kernel⟩
          refine lv_iconst hx hb dX6_layTurn_116 ev62 ?_
          refine lv_goto (tgt := 121) hx hb dX6_layTurn_117 (by decide) ?_
          exact J121 a0 v59 v62 E55 H56 k57 l_75 S55 F55 (by have := fb_rng x5_75; have := fb_rng x6_75; omega) (by have := fb_rng x5_75; have := fb_rng x6_75; omega) (by have := fb_rng x5_75; have := fb_rng x6_75; omega) (by have := fb_rng x5_75; have := fb_rng x6_75; omega) (by have := fb_rng x5_75; have := fb_rng x6_75; omega) (by have := fb_rng x5_75; have := fb_rng x6_75; omega) (by have := fb_rng x5_75; have := fb_rng x6_75; omega) (by have := fb_rng x5_75; have := fb_rng x6_75; omega) ha0 ta0 (by have := fb_rng x5_75; have := fb_rng x6_75; omega) (by have := fb_rng x5_75; have := fb_rng x6_75; omega) (by have := fb_rng x5_75; have := fb_rng x6_75; omega) (by have := fb_rng x5_75; have := fb_rng x6_75; omega) (lv_sub hl_75 [0, 1, 2, 3, 4, 5, 6, 7] rfl)
  have J70 : ∀ (x3_70 : Int32) (x4_70 : Int32) (x5_70 : Int32) (y0_70 : Int32) (E_70 : Ec) (H_70 : Heap) (k_70 : List Loc) (l_70 : Array Slot), Now D TB cy (va_A (va_pl L E) sz) s L τ E_70 H_70 k_70 → Fr L τ (inW [(5, 0), (100, 0), (101, 0), (102, 0), (103, 0), (104, 0), (105, 0), (106, 0), (107, 0), (108, 0), (109, 0), (110, 0), (111, 0), (112, 0)]) E E_70 → (0 ≤ a2.toInt) → (a2.toInt ≤ 1) → (0 ≤ x3_70.toInt) → (x3_70.toInt ≤ 1) → (1 ≤ x4_70.toInt) → (x4_70.toInt ≤ 3) → lv_has l_70 8 [(0, .ref a0), (1, .ref a1), (2, .int a2), (3, .int x3_70), (4, .int x4_70), (5, .int x5_70)] → W p l e { frames := 2, cells := 0, slots := 0, locals := 45 } s m args below meth c H_70 k_70 0 0 QQ (F0 m 70 l_70 [.int y0_70]) := by
    intro x3_70 x4_70 x5_70 y0_70 E_70 H_70 k_70 l_70 S_70 F_70 z63 z64 z65 z66 z67 z68 hl_70
    refine lv_istore (lv' := [(6, .int y0_70), (0, .ref a0), (1, .ref a1), (2, .int a2), (3, .int x3_70), (4, .int x4_70), (5, .int x5_70)]) hx hb dX6_layTurn_70 hl_70 (by decide) rfl (fun l69 hl70 => ?_)
    obtain ⟨v71, ev71, tv71⟩ : ∃ v : Int32, Int32.ofInt (0) = v ∧ v.toInt = 0 := ⟨_, rfl, by decide +kernel⟩
    refine lv_iconst hx hb dX6_layTurn_72 ev71 ?_
    refine lv_istore (lv' := [(7, .int v71), (6, .int y0_70), (0, .ref a0), (1, .ref a1), (2, .int a2), (3, .int x3_70), (4, .int x4_70), (5, .int x5_70)]) hx hb dX6_layTurn_73 hl70 (by decide) rfl (fun l72 hl73 => ?_)
    exact J75 _ x3_70 x4_70 x5_70 y0_70 v71 E_70 H_70 k_70 l72 S_70 F_70 (by have := fb_rng y0_70; have := fb_rng x5_70; omega) (by have := fb_rng y0_70; have := fb_rng x5_70; omega) (by have := fb_rng y0_70; have := fb_rng x5_70; omega) (by have := fb_rng y0_70; have := fb_rng x5_70; omega) (by have := fb_rng y0_70; have := fb_rng x5_70; omega) (by have := fb_rng y0_70; have := fb_rng x5_70; omega) (by have := fb_rng y0_70; have := fb_rng x5_70; omega) (by have := fb_rng y0_70; have := fb_rng x5_70; omega) (Nat.lt_succ_self _) (lv_sub hl73 [2, 3, 4, 5, 6, 7, 1, 0] rfl)
  have J47 : ∀ (x3_47 : Int32) (x4_47 : Int32) (y0_47 : Int32) (E_47 : Ec) (H_47 : Heap) (k_47 : List Loc) (l_47 : Array Slot), Now D TB cy (va_A (va_pl L E) sz) s L τ E_47 H_47 k_47 → Fr L τ (inW [(5, 0), (100, 0), (101, 0), (102, 0), (103, 0), (104, 0), (105, 0), (106, 0), (107, 0), (108, 0), (109, 0), (110, 0), (111, 0), (112, 0)]) E E_47 → (0 ≤ a2.toInt) → (a2.toInt ≤ 1) → (0 ≤ x3_47.toInt) → (x3_47.toInt ≤ 1) → (1 ≤ x4_47.toInt) → (x4_47.toInt ≤ 3) → lv_has l_47 8 [(0, .ref a0), (1, .ref a1), (2, .int a2), (3, .int x3_47), (4, .int x4_47)] → W p l e { frames := 2, cells := 0, slots := 0, locals := 45 } s m args below meth c H_47 k_47 0 0 QQ (F0 m 47 l_47 [.int y0_47]) := by
    intro x3_47 x4_47 y0_47 E_47 H_47 k_47 l_47 S_47 F_47 z74 z75 z76 z77 z78 z79 hl_47
    refine lv_istore (lv' := [(5, .int y0_47), (0, .ref a0), (1, .ref a1), (2, .int a2), (3, .int x3_47), (4, .int x4_47)]) hx hb dX6_layTurn_47 hl_47 (by decide) rfl (fun l80 hl81 => ?_)
    refine lv_iload_n hx hb dX6_layTurn_49 rfl (lv_at hl81 4 rfl) ?_
    refine lv_if_eq (tgt := 60) hx hb dX6_layTurn_50 (by decide) (fun c82 => ?_) (fun c82 => ?_)
    · skip
      have tc82 := nu_eq c82
      have uc82 : (0 : Int32).toInt = 0 := rfl
      refine lv_aload_n hx hb dX6_layTurn_60 rfl (lv_at hl81 2 rfl) ?_
      refine tr_geti Z.1 Z.2.2.2.1 S_47.1 S_47.2 ha1 ta1 rfl rfl (fun _ h => List.mem_cons_of_mem _ (List.mem_append_left _ (List.mem_append_right _ h))) 3 (by decide) rfl (hts _ (List.mem_of_getElem? (i := 4) rfl)) dX6_layTurn_61 (fun v83 ev83 lv83 uv83 => ?_)
      obtain ⟨v84, ev84, tv84⟩ : ∃ v : Int32, (Int8.ofInt (11)).toInt32 = v ∧ v.toInt = 11 := ⟨_, rfl, by decide +kernel⟩
      refine lv_bipush hx hb dX6_layTurn_64 ev84 ?_
      refine lv_imul hx hb dX6_layTurn_66 ?_
      refine lv_topi (fun v85 ev85 => ?_)
      obtain ⟨v86, ev86, tv86⟩ : ∃ v : Int32, (Int8.ofInt (7)).toInt32 = v ∧ v.toInt = 7 := ⟨_, rfl, by decide +kernel⟩
      refine lv_bipush hx hb dX6_layTurn_67 ev86 ?_
      refine lv_idiv hx hb dX6_layTurn_69 (fun q => by have := nu_eq0 q; omega) ?_
      refine lv_topi (fun v87 ev87 => ?_)
      exact J70 x3_47 x4_47 y0_47 v87 E_47 H_47 k_47 l80 S_47 F_47 (by have := fb_rng y0_47; omega) (by have := fb_rng y0_47; omega) (by have := fb_rng y0_47; omega) (by have := fb_rng y0_47; omega) (by have := fb_rng y0_47; omega) (by have := fb_rng y0_47; omega) (lv_sub hl81 [1, 2, 3, 4, 5, 0] rfl)
    · skip
      have tc82 := nu_ne c82
      have uc82 : (0 : Int32).toInt = 0 := rfl
      refine lv_aload_n hx hb dX6_layTurn_53 rfl (lv_at hl81 2 rfl) ?_
      refine tr_geti Z.1 Z.2.2.2.1 S_47.1 S_47.2 ha1 ta1 rfl rfl (fun _ h => List.mem_cons_of_mem _ (List.mem_append_left _ (List.mem_append_right _ h))) 1 (by decide) rfl (hts _ (List.mem_of_getElem? (i := 2) rfl)) dX6_layTurn_54 (fun v88 ev88 lv88 uv88 => ?_)
      refine lv_goto (tgt := 70) hx hb dX6_layTurn_57 (by decide) ?_
      exact J70 x3_47 x4_47 y0_47 v88 E_47 H_47 k_47 l80 S_47 F_47 (by have := fb_rng y0_47; omega) (by have := fb_rng y0_47; omega) (by have := fb_rng y0_47; omega) (by have := fb_rng y0_47; omega) (by have := fb_rng y0_47; omega) (by have := fb_rng y0_47; omega) (lv_sub hl81 [1, 2, 3, 4, 5, 0] rfl)
  have J24 : ∀ (x3_24 : Int32) (y0_24 : Int32) (E_24 : Ec) (H_24 : Heap) (k_24 : List Loc) (l_24 : Array Slot), Now D TB cy (va_A (va_pl L E) sz) s L τ E_24 H_24 k_24 → Fr L τ (inW [(5, 0), (100, 0), (101, 0), (102, 0), (103, 0), (104, 0), (105, 0), (106, 0), (107, 0), (108, 0), (109, 0), (110, 0), (111, 0), (112, 0)]) E E_24 → (0 ≤ a2.toInt) → (a2.toInt ≤ 1) → (0 ≤ x3_24.toInt) → (x3_24.toInt ≤ 1) → (1 ≤ y0_24.toInt) → (y0_24.toInt ≤ 3) → lv_has l_24 8 [(0, .ref a0), (1, .ref a1), (2, .int a2), (3, .int x3_24)] → W p l e { frames := 2, cells := 0, slots := 0, locals := 45 } s m args below meth c H_24 k_24 0 0 QQ (F0 m 24 l_24 [.int y0_24]) := by
    intro x3_24 y0_24 E_24 H_24 k_24 l_24 S_24 F_24 z89 z90 z91 z92 z93 z94 hl_24
    refine lv_istore (lv' := [(4, .int y0_24), (0, .ref a0), (1, .ref a1), (2, .int a2), (3, .int x3_24)]) hx hb dX6_layTurn_24 hl_24 (by decide) rfl (fun l95 hl96 => ?_)
    refine lv_iload_n hx hb dX6_layTurn_26 rfl (lv_at hl96 4 rfl) ?_
    refine lv_if_eq (tgt := 37) hx hb dX6_layTurn_27 (by decide) (fun c97 => ?_) (fun c97 => ?_)
    · skip
      have tc97 := nu_eq c97
      have uc97 : (0 : Int32).toInt = 0 := rfl
      refine lv_aload_n hx hb dX6_layTurn_37 rfl (lv_at hl96 2 rfl) ?_
      refine tr_geti Z.1 Z.2.2.2.1 S_24.1 S_24.2 ha1 ta1 rfl rfl (fun _ h => List.mem_cons_of_mem _ (List.mem_append_left _ (List.mem_append_right _ h))) 2 (by decide) rfl (hts _ (List.mem_of_getElem? (i := 3) rfl)) dX6_layTurn_38 (fun v98 ev98 lv98 uv98 => ?_)
      obtain ⟨v99, ev99, tv99⟩ : ∃ v : Int32, (Int8.ofInt (11)).toInt32 = v ∧ v.toInt = 11 := ⟨_, rfl, by decide +kernel⟩
      refine lv_bipush hx hb dX6_layTurn_41 ev99 ?_
      refine lv_imul hx hb dX6_layTurn_43 ?_
      refine lv_topi (fun v100 ev100 => ?_)
      obtain ⟨v101, ev101, tv101⟩ : ∃ v : Int32, (Int8.ofInt (7)).toInt32 = v ∧ v.toInt = 7 := ⟨_, rfl, by decide +kernel⟩
      refine lv_bipush hx hb dX6_layTurn_44 ev101 ?_
      refine lv_idiv hx hb dX6_layTurn_46 (fun q => by have := nu_eq0 q; omega) ?_
      refine lv_topi (fun v102 ev102 => ?_)
      exact J47 x3_24 y0_24 v102 E_24 H_24 k_24 l95 S_24 F_24 (by omega) (by omega) (by omega) (by omega) (by omega) (by omega) (lv_sub hl96 [1, 2, 3, 4, 0] rfl)
    · skip
      have tc97 := nu_ne c97
      have uc97 : (0 : Int32).toInt = 0 := rfl
      refine lv_aload_n hx hb dX6_layTurn_30 rfl (lv_at hl96 2 rfl) ?_
      refine tr_geti Z.1 Z.2.2.2.1 S_24.1 S_24.2 ha1 ta1 rfl rfl (fun _ h => List.mem_cons_of_mem _ (List.mem_append_left _ (List.mem_append_right _ h))) 1 (by decide) rfl (hts _ (List.mem_of_getElem? (i := 2) rfl)) dX6_layTurn_31 (fun v103 ev103 lv103 uv103 => ?_)
      refine lv_goto (tgt := 47) hx hb dX6_layTurn_34 (by decide) ?_
      exact J47 x3_24 y0_24 v103 E_24 H_24 k_24 l95 S_24 F_24 (by omega) (by omega) (by omega) (by omega) (by omega) (by omega) (lv_sub hl96 [1, 2, 3, 4, 0] rfl)
  have J14 : ∀ (y0_14 : Int32) (E_14 : Ec) (H_14 : Heap) (k_14 : List Loc) (l_14 : Array Slot), Now D TB cy (va_A (va_pl L E) sz) s L τ E_14 H_14 k_14 → Fr L τ (inW [(5, 0), (100, 0), (101, 0), (102, 0), (103, 0), (104, 0), (105, 0), (106, 0), (107, 0), (108, 0), (109, 0), (110, 0), (111, 0), (112, 0)]) E E_14 → (0 ≤ a2.toInt) → (a2.toInt ≤ 1) → (0 ≤ y0_14.toInt) → (y0_14.toInt ≤ 1) → lv_has l_14 8 [(0, .ref a0), (1, .ref a1), (2, .int a2)] → W p l e { frames := 2, cells := 0, slots := 0, locals := 45 } s m args below meth c H_14 k_14 0 0 QQ (F0 m 14 l_14 [.int y0_14]) := by
    intro y0_14 E_14 H_14 k_14 l_14 S_14 F_14 z104 z105 z106 z107 hl_14
    refine lv_istore_n (lv' := [(3, .int y0_14), (0, .ref a0), (1, .ref a1), (2, .int a2)]) hx hb dX6_layTurn_14 rfl hl_14 (by decide) rfl (fun l108 hl109 => ?_)
    refine lv_iload_n hx hb dX6_layTurn_15 rfl (lv_at hl109 0 rfl) ?_
    refine lv_if_eq (tgt := 23) hx hb dX6_layTurn_16 (by decide) (fun c110 => ?_) (fun c110 => ?_)
    · skip
      have tc110 := nu_eq c110
      have uc110 : (0 : Int32).toInt = 0 := rfl
      obtain ⟨v111, ev111, tv111⟩ : ∃ v : Int32, Int32.ofInt (3) = v ∧ v.toInt = 3 := ⟨_, rfl, by decide +kernel⟩
      refine lv_iconst hx hb dX6_layTurn_23 ev111 ?_
      exact J24 y0_14 v111 E_14 H_14 k_14 l108 S_14 F_14 (by omega) (by omega) (by omega) (by omega) (by omega) (by omega) (lv_sub hl109 [1, 2, 3, 0] rfl)
    · skip
      have tc110 := nu_ne c110
      have uc110 : (0 : Int32).toInt = 0 := rfl
      obtain ⟨v112, ev112, tv112⟩ : ∃ v : Int32, Int32.ofInt (1) = v ∧ v.toInt = 1 := ⟨_, rfl, by decide +kernel⟩
      refine lv_iconst hx hb dX6_layTurn_19 ev112 ?_
      refine lv_goto (tgt := 24) hx hb dX6_layTurn_20 (by decide) ?_
      exact J24 y0_14 v112 E_14 H_14 k_14 l108 S_14 F_14 (by omega) (by omega) (by omega) (by omega) (by omega) (by omega) (lv_sub hl109 [1, 2, 3, 0] rfl)
  refine lv_aload_n hx hb dX6_layTurn_0 rfl (lv_at hl 1 rfl) ?_
  refine tr_getr Z.1 Z.2.2.2.1 S0.1 S0.2 ha1 ta1 rfl rfl (fun _ h => List.mem_cons_of_mem _ (List.mem_append_left _ (List.mem_append_right _ h))) 10 (by decide) rfl (hts _ (List.mem_of_getElem? (i := 1) rfl)) dX6_layTurn_1 (fun q113 eq113 hq113 tq113 => ?_)
  have tq113 : τ q113 = (22, 0) := tq113
  refine lv_iload_n hx hb dX6_layTurn_4 rfl (lv_at hl 2 rfl) ?_
  refine tr_iald Z.1 Z.2.2.2.1 S0.1 S0.2 hq113 tq113 rfl (by omega) (by omega) dX6_layTurn_5 (fun v114 ev114 lv114 uv114 => ?_)
  refine lv_if_ne (tgt := 13) hx hb dX6_layTurn_6 (by decide) (fun c115 => ?_) (fun c115 => ?_)
  · skip
    have tc115 := nu_ne c115
    have uc115 : (0 : Int32).toInt = 0 := rfl
    obtain ⟨v116, ev116, tv116⟩ : ∃ v : Int32, Int32.ofInt (0) = v ∧ v.toInt = 0 := ⟨_, rfl, by decide +kernel⟩
    refine lv_iconst hx hb dX6_layTurn_13 ev116 ?_
    exact J14 v116 E s.heap [] ls S0 F0_ (by omega) (by omega) (by omega) (by omega) (lv_sub hl [0, 1, 2] rfl)
  · skip
    have tc115 := nu_eq c115
    have uc115 : (0 : Int32).toInt = 0 := rfl
    obtain ⟨v117, ev117, tv117⟩ : ∃ v : Int32, Int32.ofInt (1) = v ∧ v.toInt = 1 := ⟨_, rfl, by decide +kernel⟩
    refine lv_iconst hx hb dX6_layTurn_9 ev117 ?_
    refine lv_goto (tgt := 14) hx hb dX6_layTurn_10 (by decide) ?_
    exact J14 v117 E s.heap [] ls S0 F0_ (by omega) (by omega) (by omega) (by omega) (lv_sub hl [0, 1, 2] rfl)

set_option maxHeartbeats 4000000 in
set_option maxRecDepth 100000 in
theorem k_X6_layTurn_v1 (l : Launch) (D : va_G) (cy : Nat → ClassId) {L : List Nat} {τ : Nat → Ro} {E : Ec} (hI : Inv TB cy L τ E) {a0 : Nat} (ha0 : a0 ∈ L) (ta0 : τ a0 = (5, 1)) {a1 : Nat} (ha1 : a1 ∈ L) (ta1 : τ a1 = (1, 2)) (a2 : Int32) (la2 : 0 ≤ a2.toInt) (ua2 : a2.toInt ≤ 1) : CtV l yX6_layTurn wsX6_layTurn { frames := 2, cells := 0, slots := 0, locals := 45 } D TB cy L τ E [.ref a0, .ref a1, .int a2] (inW [(5, 1), (100, 1), (101, 1), (102, 1), (103, 1), (104, 1), (105, 1), (106, 1), (107, 1), (108, 1), (109, 1), (110, 1), (111, 1), (112, 1)]) (fun E' => True) := by
  intro sz
  refine sta (cc := cX6_layTurn) (maxL := 8) hI (by decide) rfl (Nat.le_of_ble_eq_true rfl) (fun p e s m args below meth c ls hsz Z S0 hl => ?_)
  have hx := Z.1.1
  have hb := Z.1.2.1
  have hts := Z.1.2.2.2.2
  have F0_ : Fr L τ (inW [(5, 1), (100, 1), (101, 1), (102, 1), (103, 1), (104, 1), (105, 1), (106, 1), (107, 1), (108, 1), (109, 1), (110, 1), (111, 1), (112, 1)]) E E := Fr.refl
  have hl : lv_has ls 8 [(0, .ref a0), (1, .ref a1), (2, .int a2)] := hl
  generalize hQ : MQ below _ args s 0 0 _ = QQ
  have J75 : ∀ (n : Nat) (x3_75 : Int32) (x4_75 : Int32) (x5_75 : Int32) (x6_75 : Int32) (x7_75 : Int32) (E_75 : Ec) (H_75 : Heap) (k_75 : List Loc) (l_75 : Array Slot), Now D TB cy (va_A (va_pl L E) sz) s L τ E_75 H_75 k_75 → Fr L τ (inW [(5, 1), (100, 1), (101, 1), (102, 1), (103, 1), (104, 1), (105, 1), (106, 1), (107, 1), (108, 1), (109, 1), (110, 1), (111, 1), (112, 1)]) E E_75 → (0 ≤ a2.toInt) → (a2.toInt ≤ 1) → (0 ≤ x3_75.toInt) → (x3_75.toInt ≤ 1) → (1 ≤ x4_75.toInt) → (x4_75.toInt ≤ 3) → (0 ≤ x7_75.toInt) → (x7_75.toInt ≤ 3) → (3 - x7_75.toInt).toNat < n → lv_has l_75 8 [(0, .ref a0), (1, .ref a1), (2, .int a2), (3, .int x3_75), (4, .int x4_75), (5, .int x5_75), (6, .int x6_75), (7, .int x7_75)] → W p l e { frames := 2, cells := 0, slots := 0, locals := 45 } s m args below meth c H_75 k_75 0 0 QQ (F0 m 75 l_75 []) := by
    intro n
    induction n with
    | zero => intro x3_75 x4_75 x5_75 x6_75 x7_75 E_75 H_75 k_75 l_75 S_75 F_75 z1 z2 z3 z4 z5 z6 z7 z8 hm hl_75; exact absurd hm (Nat.not_lt_zero _)
    | succ n ih =>
      intro x3_75 x4_75 x5_75 x6_75 x7_75 E_75 H_75 k_75 l_75 S_75 F_75 z1 z2 z3 z4 z5 z6 z7 z8 hm hl_75
      have ih_75 := ih
      have J121 : ∀ (y0_121 : Nat) (y1_121 : Int32) (y2_121 : Int32) (E_121 : Ec) (H_121 : Heap) (k_121 : List Loc) (l_121 : Array Slot), Now D TB cy (va_A (va_pl L E) sz) s L τ E_121 H_121 k_121 → Fr L τ (inW [(5, 1), (100, 1), (101, 1), (102, 1), (103, 1), (104, 1), (105, 1), (106, 1), (107, 1), (108, 1), (109, 1), (110, 1), (111, 1), (112, 1)]) E E_121 → (0 ≤ a2.toInt) → (a2.toInt ≤ 1) → (0 ≤ x3_75.toInt) → (x3_75.toInt ≤ 1) → (1 ≤ x4_75.toInt) → (x4_75.toInt ≤ 3) → (0 ≤ x7_75.toInt) → (x7_75.toInt ≤ 2) → (y0_121 ∈ L) → (τ y0_121 = (5, 1)) → (0 ≤ y1_121.toInt) → (y1_121.toInt ≤ 0) → (2 ≤ y2_121.toInt) → (y2_121.toInt ≤ 3) → lv_has l_121 8 [(0, .ref a0), (1, .ref a1), (2, .int a2), (3, .int x3_75), (4, .int x4_75), (5, .int x5_75), (6, .int x6_75), (7, .int x7_75)] → W p l e { frames := 2, cells := 0, slots := 0, locals := 45 } s m args below meth c H_121 k_121 0 0 QQ (F0 m 121 l_121 [.int y2_121, .int y1_121, .ref y0_121]) := by
        intro y0_121 y1_121 y2_121 E_121 H_121 k_121 l_121 S_121 F_121 z9 z10 z11 z12 z13 z14 z15 z16 z17 z18 z19 z20 z21 z22 hl_121
        refine tc_vv Z.1 Z.2.2.2.1 Z.2.2.2.2.1 Z.2.2.2.2.2 S_121.1 S_121.2 z17 z18 rfl rfl (k_X6_put_v1_0 l D cy S_121.2 z17 z18 y1_121 (by omega) (by omega) y2_121 (by omega) (by omega)) (cwV 2 hts gX6_layTurn_X6_put rfl rfl rfl (by decide +kernel) ⟨Nat.le_of_ble_eq_true rfl, Nat.le_of_ble_eq_true rfl⟩) rfl hl_121.1 rfl (Nat.le_of_ble_eq_true rfl) dX6_layTurn_121 ⟨Nat.zero_le _, Nat.zero_le _⟩ (fun E23 H24 k25 W23 I23 G23 p23 => ?_)
        have S23 : Now D TB cy (va_A (va_pl L E) sz) s L τ E23 H24 k25 := ⟨W23, I23⟩
        have F23 : Fr L τ (inW [(5, 1), (100, 1), (101, 1), (102, 1), (103, 1), (104, 1), (105, 1), (106, 1), (107, 1), (108, 1), (109, 1), (110, 1), (111, 1), (112, 1)]) E E23 := F_121.trans (G23.mono (inW_mono (by decide)))
        refine lv_aload_n hx hb dX6_layTurn_124 rfl (lv_at hl_121 0 rfl) ?_
        refine lv_aload_n hx hb dX6_layTurn_125 rfl (lv_at hl_121 1 rfl) ?_
        refine lv_iload hx hb dX6_layTurn_126 (lv_at hl_121 5 rfl) ?_
        refine lv_iload hx hb dX6_layTurn_128 (lv_at hl_121 4 rfl) ?_
        refine lv_iload hx hb dX6_layTurn_130 (lv_at hl_121 7 rfl) ?_
        refine tc_sni Z.1 Z.2.2.2.1 Z.2.2.2.2.1 Z.2.2.2.2.2 S23.1 (k_X9_share l D cy S23.2 x5_75 x4_75 x7_75) ⟨va_cnB (host := RX9) 3 hts gX6_layTurn_X9_share_n65 rfl rfl rfl (Z.2.2.2.2.1 _ (by decide +kernel)) (hts _ (List.mem_of_getElem? (i := 13) rfl)) (by decide +kernel) ⟨Nat.le_of_ble_eq_true rfl, Nat.le_of_ble_eq_true rfl⟩, hts _ (List.mem_of_getElem? (i := 12) rfl), trivial⟩ rfl hl_121.1 rfl (Nat.le_of_ble_eq_true rfl) dX6_layTurn_132 ⟨Nat.zero_le _, Nat.zero_le _⟩ (fun v30 E27 H28 k29 W27 I27 G27 p27 => ?_)
        have q27 := p27
        have q27 := q27.symm
        subst q27
        have S27 : Now D TB cy (va_A (va_pl L E) sz) s L τ E23 H28 k29 := ⟨W27, I27⟩
        refine tc_vv Z.1 Z.2.2.2.1 Z.2.2.2.2.1 Z.2.2.2.2.2 S27.1 S27.2 ha0 ta0 rfl rfl (k_X6_add_v1 l D cy S27.2 ha0 ta0 ha1 ta1 v30) (cwV 2 hts gX6_layTurn_X6_add rfl rfl rfl (by decide +kernel) ⟨Nat.le_of_ble_eq_true rfl, Nat.le_of_ble_eq_true rfl⟩) rfl hl_121.1 rfl (Nat.le_of_ble_eq_true rfl) dX6_layTurn_135 ⟨Nat.zero_le _, Nat.zero_le _⟩ (fun E31 H32 k33 W31 I31 G31 p31 => ?_)
        have S31 : Now D TB cy (va_A (va_pl L E) sz) s L τ E31 H32 k33 := ⟨W31, I31⟩
        have F31 : Fr L τ (inW [(5, 1), (100, 1), (101, 1), (102, 1), (103, 1), (104, 1), (105, 1), (106, 1), (107, 1), (108, 1), (109, 1), (110, 1), (111, 1), (112, 1)]) E E31 := F23.trans (G31.mono (inW_mono (by decide)))
        obtain ⟨v35, ev35⟩ : ∃ y : Int32, x7_75 + Int32.ofInt (1) = y := ⟨_, rfl⟩
        have tv35 : v35.toInt = x7_75.toInt + (1) := by rw [← ev35]; exact (fb_addI (by rw [show (Int32.ofInt (1)).toInt = 1 from by decide +kernel]; omega) (by rw [show (Int32.ofInt (1)).toInt = 1 from by decide +kernel]; omega)).trans (by rw [show (Int32.ofInt (1)).toInt = 1 from by decide +kernel])
        refine lv_iinc (v := v35) (lv' := [(7, .int v35), (0, .ref a0), (1, .ref a1), (2, .int a2), (3, .int x3_75), (4, .int x4_75), (5, .int x5_75), (6, .int x6_75)]) hx hb dX6_layTurn_138 hl_121 (k := 7) rfl ev35 (by decide) rfl (fun l36 hl37 => ?_)
        refine lv_goto (tgt := 75) hx hb dX6_layTurn_141 (by decide) ?_
        exact ih_75 x3_75 x4_75 x5_75 x6_75 v35 E31 H32 k33 l36 S31 F31 (by have := fb_rng x5_75; have := fb_rng x6_75; omega) (by have := fb_rng x5_75; have := fb_rng x6_75; omega) (by have := fb_rng x5_75; have := fb_rng x6_75; omega) (by have := fb_rng x5_75; have := fb_rng x6_75; omega) (by have := fb_rng x5_75; have := fb_rng x6_75; omega) (by have := fb_rng x5_75; have := fb_rng x6_75; omega) (by have := fb_rng x5_75; have := fb_rng x6_75; omega) (by have := fb_rng x5_75; have := fb_rng x6_75; omega) (by omega) (lv_sub hl37 [1, 2, 3, 4, 5, 6, 7, 0] rfl)
      refine lv_iload hx hb dX6_layTurn_75 (lv_at hl_75 7 rfl) ?_
      refine lv_iload hx hb dX6_layTurn_77 (lv_at hl_75 4 rfl) ?_
      refine lv_icmp_ge (tgt := 144) hx hb dX6_layTurn_79 (by decide) (fun c38 => ?_) (fun c38 => ?_)
      · skip
        have tc38 := nu_le c38
        rw [← hQ]
        exact en_v Z S_75 F_75 trivial dX6_layTurn_144
      · skip
        have tc38 := nu_nle c38
        refine lv_aload_n hx hb dX6_layTurn_82 rfl (lv_at hl_75 0 rfl) ?_
        obtain ⟨v39, ev39, tv39⟩ : ∃ v : Int32, (Int8.ofInt (7)).toInt32 = v ∧ v.toInt = 7 := ⟨_, rfl, by decide +kernel⟩
        refine lv_bipush hx hb dX6_layTurn_83 ev39 ?_
        obtain ⟨v40, ev40, tv40⟩ : ∃ v : Int32, Int32.ofInt (-1) = v ∧ v.toInt = -1 := ⟨_, rfl, by decide +kernel⟩
        refine lv_iconst hx hb dX6_layTurn_85 ev40 ?_
        refine tc_vv Z.1 Z.2.2.2.1 Z.2.2.2.2.1 Z.2.2.2.2.2 S_75.1 S_75.2 ha0 ta0 rfl rfl (k_X6_put_v1_7 l D cy S_75.2 ha0 ta0 v39 (by omega) (by omega) v40) (cwV 2 hts gX6_layTurn_X6_put rfl rfl rfl (by decide +kernel) ⟨Nat.le_of_ble_eq_true rfl, Nat.le_of_ble_eq_true rfl⟩) rfl hl_75.1 rfl (Nat.le_of_ble_eq_true rfl) dX6_layTurn_86 ⟨Nat.zero_le _, Nat.zero_le _⟩ (fun E41 H42 k43 W41 I41 G41 p41 => ?_)
        have S41 : Now D TB cy (va_A (va_pl L E) sz) s L τ E41 H42 k43 := ⟨W41, I41⟩
        have F41 : Fr L τ (inW [(5, 1), (100, 1), (101, 1), (102, 1), (103, 1), (104, 1), (105, 1), (106, 1), (107, 1), (108, 1), (109, 1), (110, 1), (111, 1), (112, 1)]) E E41 := F_75.trans (G41.mono (inW_mono (by decide)))
        refine lv_aload_n hx hb dX6_layTurn_89 rfl (lv_at hl_75 0 rfl) ?_
        obtain ⟨v45, ev45, tv45⟩ : ∃ v : Int32, (Int8.ofInt (8)).toInt32 = v ∧ v.toInt = 8 := ⟨_, rfl, by decide +kernel⟩
        refine lv_bipush hx hb dX6_layTurn_90 ev45 ?_
        refine lv_iload_n hx hb dX6_layTurn_92 rfl (lv_at hl_75 2 rfl) ?_
        refine tc_vv Z.1 Z.2.2.2.1 Z.2.2.2.2.1 Z.2.2.2.2.2 S41.1 S41.2 ha0 ta0 rfl rfl (k_X6_put_v1_8 l D cy S41.2 ha0 ta0 v45 (by omega) (by omega) a2) (cwV 2 hts gX6_layTurn_X6_put rfl rfl rfl (by decide +kernel) ⟨Nat.le_of_ble_eq_true rfl, Nat.le_of_ble_eq_true rfl⟩) rfl hl_75.1 rfl (Nat.le_of_ble_eq_true rfl) dX6_layTurn_93 ⟨Nat.zero_le _, Nat.zero_le _⟩ (fun E46 H47 k48 W46 I46 G46 p46 => ?_)
        have S46 : Now D TB cy (va_A (va_pl L E) sz) s L τ E46 H47 k48 := ⟨W46, I46⟩
        have F46 : Fr L τ (inW [(5, 1), (100, 1), (101, 1), (102, 1), (103, 1), (104, 1), (105, 1), (106, 1), (107, 1), (108, 1), (109, 1), (110, 1), (111, 1), (112, 1)]) E E46 := F41.trans (G46.mono (inW_mono (by decide)))
        refine lv_aload_n hx hb dX6_layTurn_96 rfl (lv_at hl_75 0 rfl) ?_
        obtain ⟨v50, ev50, tv50⟩ : ∃ v : Int32, Int32.ofInt (4) = v ∧ v.toInt = 4 := ⟨_, rfl, by decide +kernel⟩
        refine lv_iconst hx hb dX6_layTurn_97 ev50 ?_
        refine lv_iload hx hb dX6_layTurn_98 (lv_at hl_75 6 rfl) ?_
        refine lv_iload hx hb dX6_layTurn_100 (lv_at hl_75 4 rfl) ?_
        refine lv_iload hx hb dX6_layTurn_102 (lv_at hl_75 7 rfl) ?_
        refine tc_sni Z.1 Z.2.2.2.1 Z.2.2.2.2.1 Z.2.2.2.2.2 S46.1 (k_X9_share l D cy S46.2 x6_75 x4_75 x7_75) ⟨va_cnB (host := RX9) 3 hts gX6_layTurn_X9_share_n65 rfl rfl rfl (Z.2.2.2.2.1 _ (by decide +kernel)) (hts _ (List.mem_of_getElem? (i := 13) rfl)) (by decide +kernel) ⟨Nat.le_of_ble_eq_true rfl, Nat.le_of_ble_eq_true rfl⟩, hts _ (List.mem_of_getElem? (i := 12) rfl), trivial⟩ rfl hl_75.1 rfl (Nat.le_of_ble_eq_true rfl) dX6_layTurn_104 ⟨Nat.zero_le _, Nat.zero_le _⟩ (fun v54 E51 H52 k53 W51 I51 G51 p51 => ?_)
        have q51 := p51
        have q51 := q51.symm
        subst q51
        have S51 : Now D TB cy (va_A (va_pl L E) sz) s L τ E46 H52 k53 := ⟨W51, I51⟩
        refine tc_vv Z.1 Z.2.2.2.1 Z.2.2.2.2.1 Z.2.2.2.2.2 S51.1 S51.2 ha0 ta0 rfl rfl (k_X6_put_v1_4 l D cy S51.2 ha0 ta0 v50 (by omega) (by omega) v54) (cwV 2 hts gX6_layTurn_X6_put rfl rfl rfl (by decide +kernel) ⟨Nat.le_of_ble_eq_true rfl, Nat.le_of_ble_eq_true rfl⟩) rfl hl_75.1 rfl (Nat.le_of_ble_eq_true rfl) dX6_layTurn_107 ⟨Nat.zero_le _, Nat.zero_le _⟩ (fun E55 H56 k57 W55 I55 G55 p55 => ?_)
        have S55 : Now D TB cy (va_A (va_pl L E) sz) s L τ E55 H56 k57 := ⟨W55, I55⟩
        have F55 : Fr L τ (inW [(5, 1), (100, 1), (101, 1), (102, 1), (103, 1), (104, 1), (105, 1), (106, 1), (107, 1), (108, 1), (109, 1), (110, 1), (111, 1), (112, 1)]) E E55 := F46.trans (G55.mono (inW_mono (by decide)))
        refine lv_aload_n hx hb dX6_layTurn_110 rfl (lv_at hl_75 0 rfl) ?_
        obtain ⟨v59, ev59, tv59⟩ : ∃ v : Int32, Int32.ofInt (0) = v ∧ v.toInt = 0 := ⟨_, rfl, by decide +kernel⟩
        refine lv_iconst hx hb dX6_layTurn_111 ev59 ?_
        refine lv_iload_n hx hb dX6_layTurn_112 rfl (lv_at hl_75 3 rfl) ?_
        refine lv_if_eq (tgt := 120) hx hb dX6_layTurn_113 (by decide) (fun c60 => ?_) (fun c60 => ?_)
        · skip
          have tc60 := nu_eq c60
          have uc60 : (0 : Int32).toInt = 0 := rfl
          obtain ⟨v61, ev61, tv61⟩ : ∃ v : Int32, Int32.ofInt (3) = v ∧ v.toInt = 3 := ⟨_, rfl, by decide +kernel⟩
          refine lv_iconst hx hb dX6_layTurn_120 ev61 ?_
          exact J121 a0 v59 v61 E55 H56 k57 l_75 S55 F55 (by have := fb_rng x5_75; have := fb_rng x6_75; omega) (by have := fb_rng x5_75; have := fb_rng x6_75; omega) (by have := fb_rng x5_75; have := fb_rng x6_75; omega) (by have := fb_rng x5_75; have := fb_rng x6_75; omega) (by have := fb_rng x5_75; have := fb_rng x6_75; omega) (by have := fb_rng x5_75; have := fb_rng x6_75; omega) (by have := fb_rng x5_75; have := fb_rng x6_75; omega) (by have := fb_rng x5_75; have := fb_rng x6_75; omega) ha0 ta0 (by have := fb_rng x5_75; have := fb_rng x6_75; omega) (by have := fb_rng x5_75; have := fb_rng x6_75; omega) (by have := fb_rng x5_75; have := fb_rng x6_75; omega) (by have := fb_rng x5_75; have := fb_rng x6_75; omega) (lv_sub hl_75 [0, 1, 2, 3, 4, 5, 6, 7] rfl)
        · skip
          have tc60 := nu_ne c60
          have uc60 : (0 : Int32).toInt = 0 := rfl
          obtain ⟨v62, ev62, tv62⟩ : ∃ v : Int32, Int32.ofInt (2) = v ∧ v.toInt = 2 := ⟨_, rfl, by decide +kernel⟩
          refine lv_iconst hx hb dX6_layTurn_116 ev62 ?_
          refine lv_goto (tgt := 121) hx hb dX6_layTurn_117 (by decide) ?_
          exact J121 a0 v59 v62 E55 H56 k57 l_75 S55 F55 (by have := fb_rng x5_75; have := fb_rng x6_75; omega) (by have := fb_rng x5_75; have := fb_rng x6_75; omega) (by have := fb_rng x5_75; have := fb_rng x6_75; omega) (by have := fb_rng x5_75; have := fb_rng x6_75; omega) (by have := fb_rng x5_75; have := fb_rng x6_75; omega) (by have := fb_rng x5_75; have := fb_rng x6_75; omega) (by have := fb_rng x5_75; have := fb_rng x6_75; omega) (by have := fb_rng x5_75; have := fb_rng x6_75; omega) ha0 ta0 (by have := fb_rng x5_75; have := fb_rng x6_75; omega) (by have := fb_rng x5_75; have := fb_rng x6_75; omega) (by have := fb_rng x5_75; have := fb_rng x6_75; omega) (by have := fb_rng x5_75; have := fb_rng x6_75; omega) (lv_sub hl_75 [0, 1, 2, 3, 4, 5, 6, 7] rfl)
  have J70 : ∀ (x3_70 : Int32) (x4_70 : Int32) (x5_70 : Int32) (y0_70 : Int32) (E_70 : Ec) (H_70 : Heap) (k_70 : List Loc) (l_70 : Array Slot), Now D TB cy (va_A (va_pl L E) sz) s L τ E_70 H_70 k_70 → Fr L τ (inW [(5, 1), (100, 1), (101, 1), (102, 1), (103, 1), (104, 1), (105, 1), (106, 1), (107, 1), (108, 1), (109, 1), (110, 1), (111, 1), (112, 1)]) E E_70 → (0 ≤ a2.toInt) → (a2.toInt ≤ 1) → (0 ≤ x3_70.toInt) → (x3_70.toInt ≤ 1) → (1 ≤ x4_70.toInt) → (x4_70.toInt ≤ 3) → lv_has l_70 8 [(0, .ref a0), (1, .ref a1), (2, .int a2), (3, .int x3_70), (4, .int x4_70), (5, .int x5_70)] → W p l e { frames := 2, cells := 0, slots := 0, locals := 45 } s m args below meth c H_70 k_70 0 0 QQ (F0 m 70 l_70 [.int y0_70]) := by
    intro x3_70 x4_70 x5_70 y0_70 E_70 H_70 k_70 l_70 S_70 F_70 z63 z64 z65 z66 z67 z68 hl_70
    refine lv_istore (lv' := [(6, .int y0_70), (0, .ref a0), (1, .ref a1), (2, .int a2), (3, .int x3_70), (4, .int x4_70), (5, .int x5_70)]) hx hb dX6_layTurn_70 hl_70 (by decide) rfl (fun l69 hl70 => ?_)
    obtain ⟨v71, ev71, tv71⟩ : ∃ v : Int32, Int32.ofInt (0) = v ∧ v.toInt = 0 := ⟨_, rfl, by decide +kernel⟩
    refine lv_iconst hx hb dX6_layTurn_72 ev71 ?_
    refine lv_istore (lv' := [(7, .int v71), (6, .int y0_70), (0, .ref a0), (1, .ref a1), (2, .int a2), (3, .int x3_70), (4, .int x4_70), (5, .int x5_70)]) hx hb dX6_layTurn_73 hl70 (by decide) rfl (fun l72 hl73 => ?_)
    exact J75 _ x3_70 x4_70 x5_70 y0_70 v71 E_70 H_70 k_70 l72 S_70 F_70 (by have := fb_rng y0_70; have := fb_rng x5_70; omega) (by have := fb_rng y0_70; have := fb_rng x5_70; omega) (by have := fb_rng y0_70; have := fb_rng x5_70; omega) (by have := fb_rng y0_70; have := fb_rng x5_70; omega) (by have := fb_rng y0_70; have := fb_rng x5_70; omega) (by have := fb_rng y0_70; have := fb_rng x5_70; omega) (by have := fb_rng y0_70; have := fb_rng x5_70; omega) (by have := fb_rng y0_70; have := fb_rng x5_70; omega) (Nat.lt_succ_self _) (lv_sub hl73 [2, 3, 4, 5, 6, 7, 1, 0] rfl)
  have J47 : ∀ (x3_47 : Int32) (x4_47 : Int32) (y0_47 : Int32) (E_47 : Ec) (H_47 : Heap) (k_47 : List Loc) (l_47 : Array Slot), Now D TB cy (va_A (va_pl L E) sz) s L τ E_47 H_47 k_47 → Fr L τ (inW [(5, 1), (100, 1), (101, 1), (102, 1), (103, 1), (104, 1), (105, 1), (106, 1), (107, 1), (108, 1), (109, 1), (110, 1), (111, 1), (112, 1)]) E E_47 → (0 ≤ a2.toInt) → (a2.toInt ≤ 1) → (0 ≤ x3_47.toInt) → (x3_47.toInt ≤ 1) → (1 ≤ x4_47.toInt) → (x4_47.toInt ≤ 3) → lv_has l_47 8 [(0, .ref a0), (1, .ref a1), (2, .int a2), (3, .int x3_47), (4, .int x4_47)] → W p l e { frames := 2, cells := 0, slots := 0, locals := 45 } s m args below meth c H_47 k_47 0 0 QQ (F0 m 47 l_47 [.int y0_47]) := by
    intro x3_47 x4_47 y0_47 E_47 H_47 k_47 l_47 S_47 F_47 z74 z75 z76 z77 z78 z79 hl_47
    refine lv_istore (lv' := [(5, .int y0_47), (0, .ref a0), (1, .ref a1), (2, .int a2), (3, .int x3_47), (4, .int x4_47)]) hx hb dX6_layTurn_47 hl_47 (by decide) rfl (fun l80 hl81 => ?_)
    refine lv_iload_n hx hb dX6_layTurn_49 rfl (lv_at hl81 4 rfl) ?_
    refine lv_if_eq (tgt := 60) hx hb dX6_layTurn_50 (by decide) (fun c82 => ?_) (fun c82 => ?_)
    · skip
      have tc82 := nu_eq c82
      have uc82 : (0 : Int32).toInt = 0 := rfl
      refine lv_aload_n hx hb dX6_layTurn_60 rfl (lv_at hl81 2 rfl) ?_
      refine tr_geti Z.1 Z.2.2.2.1 S_47.1 S_47.2 ha1 ta1 rfl rfl (fun _ h => List.mem_cons_of_mem _ (List.mem_append_left _ (List.mem_append_right _ h))) 3 (by decide) rfl (hts _ (List.mem_of_getElem? (i := 4) rfl)) dX6_layTurn_61 (fun v83 ev83 lv83 uv83 => ?_)
      obtain ⟨v84, ev84, tv84⟩ : ∃ v : Int32, (Int8.ofInt (11)).toInt32 = v ∧ v.toInt = 11 := ⟨_, rfl, by decide +kernel⟩
      refine lv_bipush hx hb dX6_layTurn_64 ev84 ?_
      refine lv_imul hx hb dX6_layTurn_66 ?_
      refine lv_topi (fun v85 ev85 => ?_)
      obtain ⟨v86, ev86, tv86⟩ : ∃ v : Int32, (Int8.ofInt (7)).toInt32 = v ∧ v.toInt = 7 := ⟨_, rfl, by decide +kernel⟩
      refine lv_bipush hx hb dX6_layTurn_67 ev86 ?_
      refine lv_idiv hx hb dX6_layTurn_69 (fun q => by have := nu_eq0 q; omega) ?_
      refine lv_topi (fun v87 ev87 => ?_)
      exact J70 x3_47 x4_47 y0_47 v87 E_47 H_47 k_47 l80 S_47 F_47 (by have := fb_rng y0_47; omega) (by have := fb_rng y0_47; omega) (by have := fb_rng y0_47; omega) (by have := fb_rng y0_47; omega) (by have := fb_rng y0_47; omega) (by have := fb_rng y0_47; omega) (lv_sub hl81 [1, 2, 3, 4, 5, 0] rfl)
    · skip
      have tc82 := nu_ne c82
      have uc82 : (0 : Int32).toInt = 0 := rfl
      refine lv_aload_n hx hb dX6_layTurn_53 rfl (lv_at hl81 2 rfl) ?_
      refine tr_geti Z.1 Z.2.2.2.1 S_47.1 S_47.2 ha1 ta1 rfl rfl (fun _ h => List.mem_cons_of_mem _ (List.mem_append_left _ (List.mem_append_right _ h))) 1 (by decide) rfl (hts _ (List.mem_of_getElem? (i := 2) rfl)) dX6_layTurn_54 (fun v88 ev88 lv88 uv88 => ?_)
      refine lv_goto (tgt := 70) hx hb dX6_layTurn_57 (by decide) ?_
      exact J70 x3_47 x4_47 y0_47 v88 E_47 H_47 k_47 l80 S_47 F_47 (by have := fb_rng y0_47; omega) (by have := fb_rng y0_47; omega) (by have := fb_rng y0_47; omega) (by have := fb_rng y0_47; omega) (by have := fb_rng y0_47; omega) (by have := fb_rng y0_47; omega) (lv_sub hl81 [1, 2, 3, 4, 5, 0] rfl)
  have J24 : ∀ (x3_24 : Int32) (y0_24 : Int32) (E_24 : Ec) (H_24 : Heap) (k_24 : List Loc) (l_24 : Array Slot), Now D TB cy (va_A (va_pl L E) sz) s L τ E_24 H_24 k_24 → Fr L τ (inW [(5, 1), (100, 1), (101, 1), (102, 1), (103, 1), (104, 1), (105, 1), (106, 1), (107, 1), (108, 1), (109, 1), (110, 1), (111, 1), (112, 1)]) E E_24 → (0 ≤ a2.toInt) → (a2.toInt ≤ 1) → (0 ≤ x3_24.toInt) → (x3_24.toInt ≤ 1) → (1 ≤ y0_24.toInt) → (y0_24.toInt ≤ 3) → lv_has l_24 8 [(0, .ref a0), (1, .ref a1), (2, .int a2), (3, .int x3_24)] → W p l e { frames := 2, cells := 0, slots := 0, locals := 45 } s m args below meth c H_24 k_24 0 0 QQ (F0 m 24 l_24 [.int y0_24]) := by
    intro x3_24 y0_24 E_24 H_24 k_24 l_24 S_24 F_24 z89 z90 z91 z92 z93 z94 hl_24
    refine lv_istore (lv' := [(4, .int y0_24), (0, .ref a0), (1, .ref a1), (2, .int a2), (3, .int x3_24)]) hx hb dX6_layTurn_24 hl_24 (by decide) rfl (fun l95 hl96 => ?_)
    refine lv_iload_n hx hb dX6_layTurn_26 rfl (lv_at hl96 4 rfl) ?_
    refine lv_if_eq (tgt := 37) hx hb dX6_layTurn_27 (by decide) (fun c97 => ?_) (fun c97 => ?_)
    · skip
      have tc97 := nu_eq c97
      have uc97 : (0 : Int32).toInt = 0 := rfl
      refine lv_aload_n hx hb dX6_layTurn_37 rfl (lv_at hl96 2 rfl) ?_
      refine tr_geti Z.1 Z.2.2.2.1 S_24.1 S_24.2 ha1 ta1 rfl rfl (fun _ h => List.mem_cons_of_mem _ (List.mem_append_left _ (List.mem_append_right _ h))) 2 (by decide) rfl (hts _ (List.mem_of_getElem? (i := 3) rfl)) dX6_layTurn_38 (fun v98 ev98 lv98 uv98 => ?_)
      obtain ⟨v99, ev99, tv99⟩ : ∃ v : Int32, (Int8.ofInt (11)).toInt32 = v ∧ v.toInt = 11 := ⟨_, rfl, by decide +kernel⟩
      refine lv_bipush hx hb dX6_layTurn_41 ev99 ?_
      refine lv_imul hx hb dX6_layTurn_43 ?_
      refine lv_topi (fun v100 ev100 => ?_)
      obtain ⟨v101, ev101, tv101⟩ : ∃ v : Int32, (Int8.ofInt (7)).toInt32 = v ∧ v.toInt = 7 := ⟨_, rfl, by decide +kernel⟩
      refine lv_bipush hx hb dX6_layTurn_44 ev101 ?_
      refine lv_idiv hx hb dX6_layTurn_46 (fun q => by have := nu_eq0 q; omega) ?_
      refine lv_topi (fun v102 ev102 => ?_)
      exact J47 x3_24 y0_24 v102 E_24 H_24 k_24 l95 S_24 F_24 (by omega) (by omega) (by omega) (by omega) (by omega) (by omega) (lv_sub hl96 [1, 2, 3, 4, 0] rfl)
    · skip
      have tc97 := nu_ne c97
      have uc97 : (0 : Int32).toInt = 0 := rfl
      refine lv_aload_n hx hb dX6_layTurn_30 rfl (lv_at hl96 2 rfl) ?_
      refine tr_geti Z.1 Z.2.2.2.1 S_24.1 S_24.2 ha1 ta1 rfl rfl (fun _ h => List.mem_cons_of_mem _ (List.mem_append_left _ (List.mem_append_right _ h))) 1 (by decide) rfl (hts _ (List.mem_of_getElem? (i := 2) rfl)) dX6_layTurn_31 (fun v103 ev103 lv103 uv103 => ?_)
      refine lv_goto (tgt := 47) hx hb dX6_layTurn_34 (by decide) ?_
      exact J47 x3_24 y0_24 v103 E_24 H_24 k_24 l95 S_24 F_24 (by omega) (by omega) (by omega) (by omega) (by omega) (by omega) (lv_sub hl96 [1, 2, 3, 4, 0] rfl)
  have J14 : ∀ (y0_14 : Int32) (E_14 : Ec) (H_14 : Heap) (k_14 : List Loc) (l_14 : Array Slot), Now D TB cy (va_A (va_pl L E) sz) s L τ E_14 H_14 k_14 → Fr L τ (inW [(5, 1), (100, 1), (101, 1), (102, 1), (103, 1), (104, 1), (105, 1), (106, 1), (107, 1), (108, 1), (109, 1), (110, 1), (111, 1), (112, 1)]) E E_14 → (0 ≤ a2.toInt) → (a2.toInt ≤ 1) → (0 ≤ y0_14.toInt) → (y0_14.toInt ≤ 1) → lv_has l_14 8 [(0, .ref a0), (1, .ref a1), (2, .int a2)] → W p l e { frames := 2, cells := 0, slots := 0, locals := 45 } s m args below meth c H_14 k_14 0 0 QQ (F0 m 14 l_14 [.int y0_14]) := by
    intro y0_14 E_14 H_14 k_14 l_14 S_14 F_14 z104 z105 z106 z107 hl_14
    refine lv_istore_n (lv' := [(3, .int y0_14), (0, .ref a0), (1, .ref a1), (2, .int a2)]) hx hb dX6_layTurn_14 rfl hl_14 (by decide) rfl (fun l108 hl109 => ?_)
    refine lv_iload_n hx hb dX6_layTurn_15 rfl (lv_at hl109 0 rfl) ?_
    refine lv_if_eq (tgt := 23) hx hb dX6_layTurn_16 (by decide) (fun c110 => ?_) (fun c110 => ?_)
    · skip
      have tc110 := nu_eq c110
      have uc110 : (0 : Int32).toInt = 0 := rfl
      obtain ⟨v111, ev111, tv111⟩ : ∃ v : Int32, Int32.ofInt (3) = v ∧ v.toInt = 3 := ⟨_, rfl, by decide +kernel⟩
      refine lv_iconst hx hb dX6_layTurn_23 ev111 ?_
      exact J24 y0_14 v111 E_14 H_14 k_14 l108 S_14 F_14 (by omega) (by omega) (by omega) (by omega) (by omega) (by omega) (lv_sub hl109 [1, 2, 3, 0] rfl)
    · skip
      have tc110 := nu_ne c110
      have uc110 : (0 : Int32).toInt = 0 := rfl
      obtain ⟨v112, ev112, tv112⟩ : ∃ v : Int32, Int32.ofInt (1) = v ∧ v.toInt = 1 := ⟨_, rfl, by decide +kernel⟩
      refine lv_iconst hx hb dX6_layTurn_19 ev112 ?_
      refine lv_goto (tgt := 24) hx hb dX6_layTurn_20 (by decide) ?_
      exact J24 y0_14 v112 E_14 H_14 k_14 l108 S_14 F_14 (by omega) (by omega) (by omega) (by omega) (by omega) (by omega) (lv_sub hl109 [1, 2, 3, 0] rfl)
  refine lv_aload_n hx hb dX6_layTurn_0 rfl (lv_at hl 1 rfl) ?_
  refine tr_getr Z.1 Z.2.2.2.1 S0.1 S0.2 ha1 ta1 rfl rfl (fun _ h => List.mem_cons_of_mem _ (List.mem_append_left _ (List.mem_append_right _ h))) 10 (by decide) rfl (hts _ (List.mem_of_getElem? (i := 1) rfl)) dX6_layTurn_1 (fun q113 eq113 hq113 tq113 => ?_)
  have tq113 : τ q113 = (22, 2) := tq113
  refine lv_iload_n hx hb dX6_layTurn_4 rfl (lv_at hl 2 rfl) ?_
  refine tr_iald Z.1 Z.2.2.2.1 S0.1 S0.2 hq113 tq113 rfl (by omega) (by omega) dX6_layTurn_5 (fun v114 ev114 lv114 uv114 => ?_)
  refine lv_if_ne (tgt := 13) hx hb dX6_layTurn_6 (by decide) (fun c115 => ?_) (fun c115 => ?_)
  · skip
    have tc115 := nu_ne c115
    have uc115 : (0 : Int32).toInt = 0 := rfl
    obtain ⟨v116, ev116, tv116⟩ : ∃ v : Int32, Int32.ofInt (0) = v ∧ v.toInt = 0 := ⟨_, rfl, by decide +kernel⟩
    refine lv_iconst hx hb dX6_layTurn_13 ev116 ?_
    exact J14 v116 E s.heap [] ls S0 F0_ (by omega) (by omega) (by omega) (by omega) (lv_sub hl [0, 1, 2] rfl)
  · skip
    have tc115 := nu_eq c115
    have uc115 : (0 : Int32).toInt = 0 := rfl
    obtain ⟨v117, ev117, tv117⟩ : ∃ v : Int32, Int32.ofInt (1) = v ∧ v.toInt = 1 := ⟨_, rfl, by decide +kernel⟩
    refine lv_iconst hx hb dX6_layTurn_9 ev117 ?_
    refine lv_goto (tgt := 14) hx hb dX6_layTurn_10 (by decide) ?_
    exact J14 v117 E s.heap [] ls S0 F0_ (by omega) (by omega) (by omega) (by omega) (lv_sub hl [0, 1, 2] rfl)

set_option maxRecDepth 20000 in
theorem ggX6_layFlight_X9_share : GoodIn wsX6_layFlight wsX9_share := goodIn_r _ [6] (by decide +kernel) (by decide +kernel)
set_option maxRecDepth 20000 in
theorem gX6_layFlight_X9_share_n65 : GoodIn wsX6_layFlight (wsX9_share) := ggX6_layFlight_X9_share
set_option maxRecDepth 20000 in
theorem ggX6_layFlight_X6_put : GoodIn wsX6_layFlight wsX6_put := goodIn_r _ [11, 12, 13, 39, 40, 41, 42, 43] (by decide +kernel) (by decide +kernel)
set_option maxRecDepth 20000 in
theorem gX6_layFlight_X6_put : GoodIn wsX6_layFlight (wsV RX6 72 RX6 yX6_put wsX6_put) := goodIn_app (goodIn_of _ (by decide +kernel)) ggX6_layFlight_X6_put
set_option maxRecDepth 20000 in
theorem ggX6_layFlight_X6_add : GoodIn wsX6_layFlight wsX6_add := goodIn_r _ [17, 12, 18, 19, 20, 13, 21, 22, 4, 5, 6, 39, 40, 41, 42, 43, 23, 24, 25, 26, 27, 28, 29, 30, 31, 32, 33, 34, 35, 36, 37, 38] (by decide +kernel) (by decide +kernel)
set_option maxRecDepth 20000 in
theorem gX6_layFlight_X6_add : GoodIn wsX6_layFlight (wsV RX6 76 RX6 yX6_add wsX6_add) := goodIn_app (goodIn_of _ (by decide +kernel)) ggX6_layFlight_X6_add
theorem dX6_layFlight_0 : decode cX6_layFlight 0 = .ok (.aload_n 1, 1) := by decide +kernel
theorem dX6_layFlight_1 : decode cX6_layFlight 1 = .ok (.getfield 58, 3) := by decide +kernel
theorem dX6_layFlight_4 : decode cX6_layFlight 4 = .ok (.iload_n 2, 1) := by decide +kernel
theorem dX6_layFlight_5 : decode cX6_layFlight 5 = .ok (.iaload, 1) := by decide +kernel
theorem dX6_layFlight_6 : decode cX6_layFlight 6 = .ok (.istore_n 3, 1) := by decide +kernel
theorem dX6_layFlight_7 : decode cX6_layFlight 7 = .ok (.iconst 0, 1) := by decide +kernel
theorem dX6_layFlight_8 : decode cX6_layFlight 8 = .ok (.istore 4, 2) := by decide +kernel
theorem dX6_layFlight_10 : decode cX6_layFlight 10 = .ok (.iload 4, 2) := by decide +kernel
theorem dX6_layFlight_12 : decode cX6_layFlight 12 = .ok (.iload_n 3, 1) := by decide +kernel
theorem dX6_layFlight_13 : decode cX6_layFlight 13 = .ok (.if_icmp .ge 103, 3) := by decide +kernel
theorem dX6_layFlight_16 : decode cX6_layFlight 16 = .ok (.aload_n 1, 1) := by decide +kernel
theorem dX6_layFlight_17 : decode cX6_layFlight 17 = .ok (.getfield 62, 3) := by decide +kernel
theorem dX6_layFlight_20 : decode cX6_layFlight 20 = .ok (.iload_n 2, 1) := by decide +kernel
theorem dX6_layFlight_21 : decode cX6_layFlight 21 = .ok (.iaload, 1) := by decide +kernel
theorem dX6_layFlight_22 : decode cX6_layFlight 22 = .ok (.iload_n 3, 1) := by decide +kernel
theorem dX6_layFlight_23 : decode cX6_layFlight 23 = .ok (.iload 4, 2) := by decide +kernel
theorem dX6_layFlight_25 : decode cX6_layFlight 25 = .ok (.invokestatic 65, 3) := by decide +kernel
theorem dX6_layFlight_28 : decode cX6_layFlight 28 = .ok (.istore 5, 2) := by decide +kernel
theorem dX6_layFlight_30 : decode cX6_layFlight 30 = .ok (.iload_n 2, 1) := by decide +kernel
theorem dX6_layFlight_31 : decode cX6_layFlight 31 = .ok (.ifCond .ne 20, 3) := by decide +kernel
theorem dX6_layFlight_34 : decode cX6_layFlight 34 = .ok (.iload 4, 2) := by decide +kernel
theorem dX6_layFlight_36 : decode cX6_layFlight 36 = .ok (.ifCond .ne 15, 3) := by decide +kernel
theorem dX6_layFlight_39 : decode cX6_layFlight 39 = .ok (.aload_n 1, 1) := by decide +kernel
theorem dX6_layFlight_40 : decode cX6_layFlight 40 = .ok (.getfield 69, 3) := by decide +kernel
theorem dX6_layFlight_43 : decode cX6_layFlight 43 = .ok (.iconst 1, 1) := by decide +kernel
theorem dX6_layFlight_44 : decode cX6_layFlight 44 = .ok (.if_icmp .ne 7, 3) := by decide +kernel
theorem dX6_layFlight_47 : decode cX6_layFlight 47 = .ok (.iconst 1, 1) := by decide +kernel
theorem dX6_layFlight_48 : decode cX6_layFlight 48 = .ok (.goto 4, 3) := by decide +kernel
theorem dX6_layFlight_51 : decode cX6_layFlight 51 = .ok (.iconst 0, 1) := by decide +kernel
theorem dX6_layFlight_52 : decode cX6_layFlight 52 = .ok (.istore 6, 2) := by decide +kernel
theorem dX6_layFlight_54 : decode cX6_layFlight 54 = .ok (.aload_n 0, 1) := by decide +kernel
theorem dX6_layFlight_55 : decode cX6_layFlight 55 = .ok (.bipush 7, 2) := by decide +kernel
theorem dX6_layFlight_57 : decode cX6_layFlight 57 = .ok (.iload_n 2, 1) := by decide +kernel
theorem dX6_layFlight_58 : decode cX6_layFlight 58 = .ok (.invokevirtual 72, 3) := by decide +kernel
theorem dX6_layFlight_61 : decode cX6_layFlight 61 = .ok (.aload_n 0, 1) := by decide +kernel
theorem dX6_layFlight_62 : decode cX6_layFlight 62 = .ok (.bipush 8, 2) := by decide +kernel
theorem dX6_layFlight_64 : decode cX6_layFlight 64 = .ok (.iconst (-1), 1) := by decide +kernel
theorem dX6_layFlight_65 : decode cX6_layFlight 65 = .ok (.invokevirtual 72, 3) := by decide +kernel
theorem dX6_layFlight_68 : decode cX6_layFlight 68 = .ok (.aload_n 0, 1) := by decide +kernel
theorem dX6_layFlight_69 : decode cX6_layFlight 69 = .ok (.iconst 4, 1) := by decide +kernel
theorem dX6_layFlight_70 : decode cX6_layFlight 70 = .ok (.iload 5, 2) := by decide +kernel
theorem dX6_layFlight_72 : decode cX6_layFlight 72 = .ok (.invokevirtual 72, 3) := by decide +kernel
theorem dX6_layFlight_75 : decode cX6_layFlight 75 = .ok (.aload_n 0, 1) := by decide +kernel
theorem dX6_layFlight_76 : decode cX6_layFlight 76 = .ok (.iconst 0, 1) := by decide +kernel
theorem dX6_layFlight_77 : decode cX6_layFlight 77 = .ok (.iload 6, 2) := by decide +kernel
theorem dX6_layFlight_79 : decode cX6_layFlight 79 = .ok (.ifCond .eq 7, 3) := by decide +kernel
theorem dX6_layFlight_82 : decode cX6_layFlight 82 = .ok (.iconst 1, 1) := by decide +kernel
theorem dX6_layFlight_83 : decode cX6_layFlight 83 = .ok (.goto 4, 3) := by decide +kernel
theorem dX6_layFlight_86 : decode cX6_layFlight 86 = .ok (.iconst 0, 1) := by decide +kernel
theorem dX6_layFlight_87 : decode cX6_layFlight 87 = .ok (.invokevirtual 72, 3) := by decide +kernel
theorem dX6_layFlight_90 : decode cX6_layFlight 90 = .ok (.aload_n 0, 1) := by decide +kernel
theorem dX6_layFlight_91 : decode cX6_layFlight 91 = .ok (.aload_n 1, 1) := by decide +kernel
theorem dX6_layFlight_92 : decode cX6_layFlight 92 = .ok (.iload 6, 2) := by decide +kernel
theorem dX6_layFlight_94 : decode cX6_layFlight 94 = .ok (.ifCond .eq 11, 3) := by decide +kernel
theorem dX6_layFlight_97 : decode cX6_layFlight 97 = .ok (.iload 5, 2) := by decide +kernel
theorem dX6_layFlight_99 : decode cX6_layFlight 99 = .ok (.bipush 30, 2) := by decide +kernel
theorem dX6_layFlight_101 : decode cX6_layFlight 101 = .ok (.iadd, 1) := by decide +kernel
theorem dX6_layFlight_102 : decode cX6_layFlight 102 = .ok (.goto 5, 3) := by decide +kernel
theorem dX6_layFlight_105 : decode cX6_layFlight 105 = .ok (.iload 5, 2) := by decide +kernel
theorem dX6_layFlight_107 : decode cX6_layFlight 107 = .ok (.invokevirtual 76, 3) := by decide +kernel
theorem dX6_layFlight_110 : decode cX6_layFlight 110 = .ok (.iinc 4 1, 3) := by decide +kernel
theorem dX6_layFlight_113 : decode cX6_layFlight 113 = .ok (.goto (-103), 3) := by decide +kernel
theorem dX6_layFlight_116 : decode cX6_layFlight 116 = .ok (.return_, 1) := by decide +kernel
set_option maxHeartbeats 4000000 in
set_option maxRecDepth 100000 in
theorem k_X6_layFlight_v0 (l : Launch) (D : va_G) (cy : Nat → ClassId) {L : List Nat} {τ : Nat → Ro} {E : Ec} (hI : Inv TB cy L τ E) {a0 : Nat} (ha0 : a0 ∈ L) (ta0 : τ a0 = (5, 0)) {a1 : Nat} (ha1 : a1 ∈ L) (ta1 : τ a1 = (1, 0)) (a2 : Int32) (la2 : 0 ≤ a2.toInt) (ua2 : a2.toInt ≤ 2) : CtV l yX6_layFlight wsX6_layFlight { frames := 2, cells := 0, slots := 0, locals := 45 } D TB cy L τ E [.ref a0, .ref a1, .int a2] (inW [(5, 0), (100, 0), (101, 0), (102, 0), (103, 0), (104, 0), (105, 0), (106, 0), (107, 0), (108, 0), (109, 0), (110, 0), (111, 0), (112, 0)]) (fun E' => True) := by
  intro sz
  refine sta (cc := cX6_layFlight) (maxL := 7) hI (by decide) rfl (Nat.le_of_ble_eq_true rfl) (fun p e s m args below meth c ls hsz Z S0 hl => ?_)
  have hx := Z.1.1
  have hb := Z.1.2.1
  have hts := Z.1.2.2.2.2
  have F0_ : Fr L τ (inW [(5, 0), (100, 0), (101, 0), (102, 0), (103, 0), (104, 0), (105, 0), (106, 0), (107, 0), (108, 0), (109, 0), (110, 0), (111, 0), (112, 0)]) E E := Fr.refl
  have hl : lv_has ls 7 [(0, .ref a0), (1, .ref a1), (2, .int a2)] := hl
  generalize hQ : MQ below _ args s 0 0 _ = QQ
  have J10 : ∀ (n : Nat) (x3_10 : Int32) (x4_10 : Int32) (E_10 : Ec) (H_10 : Heap) (k_10 : List Loc) (l_10 : Array Slot), Now D TB cy (va_A (va_pl L E) sz) s L τ E_10 H_10 k_10 → Fr L τ (inW [(5, 0), (100, 0), (101, 0), (102, 0), (103, 0), (104, 0), (105, 0), (106, 0), (107, 0), (108, 0), (109, 0), (110, 0), (111, 0), (112, 0)]) E E_10 → (0 ≤ a2.toInt) → (a2.toInt ≤ 2) → (0 ≤ x4_10.toInt) → (2147483647 - x4_10.toInt).toNat < n → lv_has l_10 7 [(0, .ref a0), (1, .ref a1), (2, .int a2), (3, .int x3_10), (4, .int x4_10)] → W p l e { frames := 2, cells := 0, slots := 0, locals := 45 } s m args below meth c H_10 k_10 0 0 QQ (F0 m 10 l_10 []) := by
    intro n
    induction n with
    | zero => intro x3_10 x4_10 E_10 H_10 k_10 l_10 S_10 F_10 z1 z2 z3 hm hl_10; exact absurd hm (Nat.not_lt_zero _)
    | succ n ih =>
      intro x3_10 x4_10 E_10 H_10 k_10 l_10 S_10 F_10 z1 z2 z3 hm hl_10
      have ih_10 := ih
      have J107 : ∀ (y0_107 : Nat) (y1_107 : Nat) (y2_107 : Int32) (E_107 : Ec) (H_107 : Heap) (k_107 : List Loc) (l_107 : Array Slot), Now D TB cy (va_A (va_pl L E) sz) s L τ E_107 H_107 k_107 → Fr L τ (inW [(5, 0), (100, 0), (101, 0), (102, 0), (103, 0), (104, 0), (105, 0), (106, 0), (107, 0), (108, 0), (109, 0), (110, 0), (111, 0), (112, 0)]) E E_107 → (0 ≤ a2.toInt) → (a2.toInt ≤ 2) → (1 ≤ x3_10.toInt) → (0 ≤ x4_10.toInt) → (x4_10.toInt ≤ 2147483646) → (y0_107 ∈ L) → (τ y0_107 = (5, 0)) → (y1_107 ∈ L) → (τ y1_107 = (1, 0)) → lv_has l_107 7 [(0, .ref a0), (1, .ref a1), (2, .int a2), (3, .int x3_10), (4, .int x4_10)] → W p l e { frames := 2, cells := 0, slots := 0, locals := 45 } s m args below meth c H_107 k_107 0 0 QQ (F0 m 107 l_107 [.int y2_107, .ref y1_107, .ref y0_107]) := by
        intro y0_107 y1_107 y2_107 E_107 H_107 k_107 l_107 S_107 F_107 z4 z5 z6 z7 z8 z9 z10 z11 z12 hl_107
        refine tc_vv Z.1 Z.2.2.2.1 Z.2.2.2.2.1 Z.2.2.2.2.2 S_107.1 S_107.2 z9 z10 rfl rfl (k_X6_add_v0 l D cy S_107.2 z9 z10 z11 z12 y2_107) (cwV 2 hts gX6_layFlight_X6_add rfl rfl rfl (by decide +kernel) ⟨Nat.le_of_ble_eq_true rfl, Nat.le_of_ble_eq_true rfl⟩) rfl hl_107.1 rfl (Nat.le_of_ble_eq_true rfl) dX6_layFlight_107 ⟨Nat.zero_le _, Nat.zero_le _⟩ (fun E13 H14 k15 W13 I13 G13 p13 => ?_)
        have S13 : Now D TB cy (va_A (va_pl L E) sz) s L τ E13 H14 k15 := ⟨W13, I13⟩
        have F13 : Fr L τ (inW [(5, 0), (100, 0), (101, 0), (102, 0), (103, 0), (104, 0), (105, 0), (106, 0), (107, 0), (108, 0), (109, 0), (110, 0), (111, 0), (112, 0)]) E E13 := F_107.trans (G13.mono (inW_mono (by decide)))
        obtain ⟨v17, ev17⟩ : ∃ y : Int32, x4_10 + Int32.ofInt (1) = y := ⟨_, rfl⟩
        have tv17 : v17.toInt = x4_10.toInt + (1) := by rw [← ev17]; exact (fb_addI (by rw [show (Int32.ofInt (1)).toInt = 1 from by decide +kernel]; omega) (by rw [show (Int32.ofInt (1)).toInt = 1 from by decide +kernel]; omega)).trans (by rw [show (Int32.ofInt (1)).toInt = 1 from by decide +kernel])
        refine lv_iinc (v := v17) (lv' := [(4, .int v17), (0, .ref a0), (1, .ref a1), (2, .int a2), (3, .int x3_10)]) hx hb dX6_layFlight_110 hl_107 (k := 4) rfl ev17 (by decide) rfl (fun l18 hl19 => ?_)
        refine lv_goto (tgt := 10) hx hb dX6_layFlight_113 (by decide) ?_
        exact ih_10 x3_10 v17 E13 H14 k15 l18 S13 F13 (by have := fb_rng v17; have := fb_rng x3_10; omega) (by have := fb_rng v17; have := fb_rng x3_10; omega) (by have := fb_rng v17; have := fb_rng x3_10; omega) (by omega) (lv_sub hl19 [1, 2, 3, 4, 0] rfl)
      have J87 : ∀ (x5_87 : Int32) (x6_87 : Int32) (y0_87 : Nat) (y1_87 : Int32) (y2_87 : Int32) (E_87 : Ec) (H_87 : Heap) (k_87 : List Loc) (l_87 : Array Slot), Now D TB cy (va_A (va_pl L E) sz) s L τ E_87 H_87 k_87 → Fr L τ (inW [(5, 0), (100, 0), (101, 0), (102, 0), (103, 0), (104, 0), (105, 0), (106, 0), (107, 0), (108, 0), (109, 0), (110, 0), (111, 0), (112, 0)]) E E_87 → (0 ≤ a2.toInt) → (a2.toInt ≤ 2) → (1 ≤ x3_10.toInt) → (0 ≤ x4_10.toInt) → (x4_10.toInt ≤ 2147483646) → (0 ≤ x6_87.toInt) → (x6_87.toInt ≤ 1) → (y0_87 ∈ L) → (τ y0_87 = (5, 0)) → (0 ≤ y1_87.toInt) → (y1_87.toInt ≤ 0) → (0 ≤ y2_87.toInt) → (y2_87.toInt ≤ 1) → lv_has l_87 7 [(0, .ref a0), (1, .ref a1), (2, .int a2), (3, .int x3_10), (4, .int x4_10), (5, .int x5_87), (6, .int x6_87)] → W p l e { frames := 2, cells := 0, slots := 0, locals := 45 } s m args below meth c H_87 k_87 0 0 QQ (F0 m 87 l_87 [.int y2_87, .int y1_87, .ref y0_87]) := by
        intro x5_87 x6_87 y0_87 y1_87 y2_87 E_87 H_87 k_87 l_87 S_87 F_87 z20 z21 z22 z23 z24 z25 z26 z27 z28 z29 z30 z31 z32 hl_87
        refine tc_vv Z.1 Z.2.2.2.1 Z.2.2.2.2.1 Z.2.2.2.2.2 S_87.1 S_87.2 z27 z28 rfl rfl (k_X6_put_v0_0 l D cy S_87.2 z27 z28 y1_87 (by omega) (by omega) y2_87 (by omega) (by omega)) (cwV 2 hts gX6_layFlight_X6_put rfl rfl rfl (by decide +kernel) ⟨Nat.le_of_ble_eq_true rfl, Nat.le_of_ble_eq_true rfl⟩) rfl hl_87.1 rfl (Nat.le_of_ble_eq_true rfl) dX6_layFlight_87 ⟨Nat.zero_le _, Nat.zero_le _⟩ (fun E33 H34 k35 W33 I33 G33 p33 => ?_)
        have S33 : Now D TB cy (va_A (va_pl L E) sz) s L τ E33 H34 k35 := ⟨W33, I33⟩
        have F33 : Fr L τ (inW [(5, 0), (100, 0), (101, 0), (102, 0), (103, 0), (104, 0), (105, 0), (106, 0), (107, 0), (108, 0), (109, 0), (110, 0), (111, 0), (112, 0)]) E E33 := F_87.trans (G33.mono (inW_mono (by decide)))
        refine lv_aload_n hx hb dX6_layFlight_90 rfl (lv_at hl_87 0 rfl) ?_
        refine lv_aload_n hx hb dX6_layFlight_91 rfl (lv_at hl_87 1 rfl) ?_
        refine lv_iload hx hb dX6_layFlight_92 (lv_at hl_87 6 rfl) ?_
        refine lv_if_eq (tgt := 105) hx hb dX6_layFlight_94 (by decide) (fun c37 => ?_) (fun c37 => ?_)
        · skip
          have tc37 := nu_eq c37
          have uc37 : (0 : Int32).toInt = 0 := rfl
          refine lv_iload hx hb dX6_layFlight_105 (lv_at hl_87 5 rfl) ?_
          exact J107 a0 a1 x5_87 E33 H34 k35 l_87 S33 F33 (by have := fb_rng x3_10; have := fb_rng x5_87; omega) (by have := fb_rng x3_10; have := fb_rng x5_87; omega) (by have := fb_rng x3_10; have := fb_rng x5_87; omega) (by have := fb_rng x3_10; have := fb_rng x5_87; omega) (by have := fb_rng x3_10; have := fb_rng x5_87; omega) ha0 ta0 ha1 ta1 (lv_sub hl_87 [0, 1, 2, 3, 4] rfl)
        · skip
          have tc37 := nu_ne c37
          have uc37 : (0 : Int32).toInt = 0 := rfl
          refine lv_iload hx hb dX6_layFlight_97 (lv_at hl_87 5 rfl) ?_
          obtain ⟨v38, ev38, tv38⟩ : ∃ v : Int32, (Int8.ofInt (30)).toInt32 = v ∧ v.toInt = 30 := ⟨_, rfl, by decide +kernel⟩
          refine lv_bipush hx hb dX6_layFlight_99 ev38 ?_
          refine lv_iadd hx hb dX6_layFlight_101 ?_
          refine lv_topi (fun v39 ev39 => ?_)
          refine lv_goto (tgt := 107) hx hb dX6_layFlight_102 (by decide) ?_
          exact J107 a0 a1 v39 E33 H34 k35 l_87 S33 F33 (by have := fb_rng x3_10; have := fb_rng x5_87; omega) (by have := fb_rng x3_10; have := fb_rng x5_87; omega) (by have := fb_rng x3_10; have := fb_rng x5_87; omega) (by have := fb_rng x3_10; have := fb_rng x5_87; omega) (by have := fb_rng x3_10; have := fb_rng x5_87; omega) ha0 ta0 ha1 ta1 (lv_sub hl_87 [0, 1, 2, 3, 4] rfl)
      have J52 : ∀ (x5_52 : Int32) (y0_52 : Int32) (E_52 : Ec) (H_52 : Heap) (k_52 : List Loc) (l_52 : Array Slot), Now D TB cy (va_A (va_pl L E) sz) s L τ E_52 H_52 k_52 → Fr L τ (inW [(5, 0), (100, 0), (101, 0), (102, 0), (103, 0), (104, 0), (105, 0), (106, 0), (107, 0), (108, 0), (109, 0), (110, 0), (111, 0), (112, 0)]) E E_52 → (0 ≤ a2.toInt) → (a2.toInt ≤ 2) → (1 ≤ x3_10.toInt) → (0 ≤ x4_10.toInt) → (x4_10.toInt ≤ 2147483646) → (0 ≤ y0_52.toInt) → (y0_52.toInt ≤ 1) → lv_has l_52 7 [(0, .ref a0), (1, .ref a1), (2, .int a2), (3, .int x3_10), (4, .int x4_10), (5, .int x5_52)] → W p l e { frames := 2, cells := 0, slots := 0, locals := 45 } s m args below meth c H_52 k_52 0 0 QQ (F0 m 52 l_52 [.int y0_52]) := by
        intro x5_52 y0_52 E_52 H_52 k_52 l_52 S_52 F_52 z40 z41 z42 z43 z44 z45 z46 hl_52
        refine lv_istore (lv' := [(6, .int y0_52), (0, .ref a0), (1, .ref a1), (2, .int a2), (3, .int x3_10), (4, .int x4_10), (5, .int x5_52)]) hx hb dX6_layFlight_52 hl_52 (by decide) rfl (fun l47 hl48 => ?_)
        refine lv_aload_n hx hb dX6_layFlight_54 rfl (lv_at hl48 1 rfl) ?_
        obtain ⟨v49, ev49, tv49⟩ : ∃ v : Int32, (Int8.ofInt (7)).toInt32 = v ∧ v.toInt = 7 := ⟨_, rfl, by decide +kernel⟩
        refine lv_bipush hx hb dX6_layFlight_55 ev49 ?_
        refine lv_iload_n hx hb dX6_layFlight_57 rfl (lv_at hl48 3 rfl) ?_
        refine tc_vv Z.1 Z.2.2.2.1 Z.2.2.2.2.1 Z.2.2.2.2.2 S_52.1 S_52.2 ha0 ta0 rfl rfl (k_X6_put_v0_7 l D cy S_52.2 ha0 ta0 v49 (by omega) (by omega) a2) (cwV 2 hts gX6_layFlight_X6_put rfl rfl rfl (by decide +kernel) ⟨Nat.le_of_ble_eq_true rfl, Nat.le_of_ble_eq_true rfl⟩) rfl hl48.1 rfl (Nat.le_of_ble_eq_true rfl) dX6_layFlight_58 ⟨Nat.zero_le _, Nat.zero_le _⟩ (fun E50 H51 k52 W50 I50 G50 p50 => ?_)
        have S50 : Now D TB cy (va_A (va_pl L E) sz) s L τ E50 H51 k52 := ⟨W50, I50⟩
        have F50 : Fr L τ (inW [(5, 0), (100, 0), (101, 0), (102, 0), (103, 0), (104, 0), (105, 0), (106, 0), (107, 0), (108, 0), (109, 0), (110, 0), (111, 0), (112, 0)]) E E50 := F_52.trans (G50.mono (inW_mono (by decide)))
        refine lv_aload_n hx hb dX6_layFlight_61 rfl (lv_at hl48 1 rfl) ?_
        obtain ⟨v54, ev54, tv54⟩ : ∃ v : Int32, (Int8.ofInt (8)).toInt32 = v ∧ v.toInt = 8 := ⟨_, rfl, by decide +kernel⟩
        refine lv_bipush hx hb dX6_layFlight_62 ev54 ?_
        obtain ⟨v55, ev55, tv55⟩ : ∃ v : Int32, Int32.ofInt (-1) = v ∧ v.toInt = -1 := ⟨_, rfl, by decide +kernel⟩
        refine lv_iconst hx hb dX6_layFlight_64 ev55 ?_
        refine tc_vv Z.1 Z.2.2.2.1 Z.2.2.2.2.1 Z.2.2.2.2.2 S50.1 S50.2 ha0 ta0 rfl rfl (k_X6_put_v0_8 l D cy S50.2 ha0 ta0 v54 (by omega) (by omega) v55) (cwV 2 hts gX6_layFlight_X6_put rfl rfl rfl (by decide +kernel) ⟨Nat.le_of_ble_eq_true rfl, Nat.le_of_ble_eq_true rfl⟩) rfl hl48.1 rfl (Nat.le_of_ble_eq_true rfl) dX6_layFlight_65 ⟨Nat.zero_le _, Nat.zero_le _⟩ (fun E56 H57 k58 W56 I56 G56 p56 => ?_)
        have S56 : Now D TB cy (va_A (va_pl L E) sz) s L τ E56 H57 k58 := ⟨W56, I56⟩
        have F56 : Fr L τ (inW [(5, 0), (100, 0), (101, 0), (102, 0), (103, 0), (104, 0), (105, 0), (106, 0), (107, 0), (108, 0), (109, 0), (110, 0), (111, 0), (112, 0)]) E E56 := F50.trans (G56.mono (inW_mono (by decide)))
        refine lv_aload_n hx hb dX6_layFlight_68 rfl (lv_at hl48 1 rfl) ?_
        obtain ⟨v60, ev60, tv60⟩ : ∃ v : Int32, Int32.ofInt (4) = v ∧ v.toInt = 4 := ⟨_, rfl, by decide +kernel⟩
        refine lv_iconst hx hb dX6_layFlight_69 ev60 ?_
        refine lv_iload hx hb dX6_layFlight_70 (lv_at hl48 6 rfl) ?_
        refine tc_vv Z.1 Z.2.2.2.1 Z.2.2.2.2.1 Z.2.2.2.2.2 S56.1 S56.2 ha0 ta0 rfl rfl (k_X6_put_v0_4 l D cy S56.2 ha0 ta0 v60 (by omega) (by omega) x5_52) (cwV 2 hts gX6_layFlight_X6_put rfl rfl rfl (by decide +kernel) ⟨Nat.le_of_ble_eq_true rfl, Nat.le_of_ble_eq_true rfl⟩) rfl hl48.1 rfl (Nat.le_of_ble_eq_true rfl) dX6_layFlight_72 ⟨Nat.zero_le _, Nat.zero_le _⟩ (fun E61 H62 k63 W61 I61 G61 p61 => ?_)
        have S61 : Now D TB cy (va_A (va_pl L E) sz) s L τ E61 H62 k63 := ⟨W61, I61⟩
        have F61 : Fr L τ (inW [(5, 0), (100, 0), (101, 0), (102, 0), (103, 0), (104, 0), (105, 0), (106, 0), (107, 0), (108, 0), (109, 0), (110, 0), (111, 0), (112, 0)]) E E61 := F56.trans (G61.mono (inW_mono (by decide)))
        refine lv_aload_n hx hb dX6_layFlight_75 rfl (lv_at hl48 1 rfl) ?_
        obtain ⟨v65, ev65, tv65⟩ : ∃ v : Int32, Int32.ofInt (0) = v ∧ v.toInt = 0 := ⟨_, rfl, by decide +kernel⟩
        refine lv_iconst hx hb dX6_layFlight_76 ev65 ?_
        refine lv_iload hx hb dX6_layFlight_77 (lv_at hl48 0 rfl) ?_
        refine lv_if_eq (tgt := 86) hx hb dX6_layFlight_79 (by decide) (fun c66 => ?_) (fun c66 => ?_)
        · skip
          have tc66 := nu_eq c66
          have uc66 : (0 : Int32).toInt = 0 := rfl
          obtain ⟨v67, ev67, tv67⟩ : ∃ v : Int32, Int32.ofInt (0) = v ∧ v.toInt = 0 := ⟨_, rfl, by decide +kernel⟩
          refine lv_iconst hx hb dX6_layFlight_86 ev67 ?_
          exact J87 x5_52 y0_52 a0 v65 v67 E61 H62 k63 l47 S61 F61 (by have := fb_rng x3_10; have := fb_rng x5_52; omega) (by have := fb_rng x3_10; have := fb_rng x5_52; omega) (by have := fb_rng x3_10; have := fb_rng x5_52; omega) (by have := fb_rng x3_10; have := fb_rng x5_52; omega) (by have := fb_rng x3_10; have := fb_rng x5_52; omega) (by have := fb_rng x3_10; have := fb_rng x5_52; omega) (by have := fb_rng x3_10; have := fb_rng x5_52; omega) ha0 ta0 (by have := fb_rng x3_10; have := fb_rng x5_52; omega) (by have := fb_rng x3_10; have := fb_rng x5_52; omega) (by have := fb_rng x3_10; have := fb_rng x5_52; omega) (by have := fb_rng x3_10; have := fb_rng x5_52; omega) (lv_sub hl48 [1, 2, 3, 4, 5, 6, 0] rfl)
        · skip
          have tc66 := nu_ne c66
          have uc66 : (0 : Int32).toInt = 0 := rfl
          obtain ⟨v68, ev68, tv68⟩ : ∃ v : Int32, Int32.ofInt (1) = v ∧ v.toInt = 1 := ⟨_, rfl, by decide +kernel⟩
          refine lv_iconst hx hb dX6_layFlight_82 ev68 ?_
          refine lv_goto (tgt := 87) hx hb dX6_layFlight_83 (by decide) ?_
          exact J87 x5_52 y0_52 a0 v65 v68 E61 H62 k63 l47 S61 F61 (by have := fb_rng x3_10; have := fb_rng x5_52; omega) (by have := fb_rng x3_10; have := fb_rng x5_52; omega) (by have := fb_rng x3_10; have := fb_rng x5_52; omega) (by have := fb_rng x3_10; have := fb_rng x5_52; omega) (by have := fb_rng x3_10; have := fb_rng x5_52; omega) (by have := fb_rng x3_10; have := fb_rng x5_52; omega) (by have := fb_rng x3_10; have := fb_rng x5_52; omega) ha0 ta0 (by have := fb_rng x3_10; have := fb_rng x5_52; omega) (by have := fb_rng x3_10; have := fb_rng x5_52; omega) (by have := fb_rng x3_10; have := fb_rng x5_52; omega) (by have := fb_rng x3_10; have := fb_rng x5_52; omega) (lv_sub hl48 [1, 2, 3, 4, 5, 6, 0] rfl)
      have J51 : ∀ (x5_51 : Int32) (E_51 : Ec) (H_51 : Heap) (k_51 : List Loc) (l_51 : Array Slot), Now D TB cy (va_A (va_pl L E) sz) s L τ E_51 H_51 k_51 → Fr L τ (inW [(5, 0), (100, 0), (101, 0), (102, 0), (103, 0), (104, 0), (105, 0), (106, 0), (107, 0), (108, 0), (109, 0), (110, 0), (111, 0), (112, 0)]) E E_51 → (0 ≤ a2.toInt) → (a2.toInt ≤ 2) → (1 ≤ x3_10.toInt) → (0 ≤ x4_10.toInt) → (x4_10.toInt ≤ 2147483646) → lv_has l_51 7 [(0, .ref a0), (1, .ref a1), (2, .int a2), (3, .int x3_10), (4, .int x4_10), (5, .int x5_51)] → W p l e { frames := 2, cells := 0, slots := 0, locals := 45 } s m args below meth c H_51 k_51 0 0 QQ (F0 m 51 l_51 []) := by
        intro x5_51 E_51 H_51 k_51 l_51 S_51 F_51 z69 z70 z71 z72 z73 hl_51
        obtain ⟨v74, ev74, tv74⟩ : ∃ v : Int32, Int32.ofInt (0) = v ∧ v.toInt = 0 := ⟨_, rfl, by decide +kernel⟩
        refine lv_iconst hx hb dX6_layFlight_51 ev74 ?_
        exact J52 x5_51 v74 E_51 H_51 k_51 l_51 S_51 F_51 (by have := fb_rng x3_10; have := fb_rng x5_51; omega) (by have := fb_rng x3_10; have := fb_rng x5_51; omega) (by have := fb_rng x3_10; have := fb_rng x5_51; omega) (by have := fb_rng x3_10; have := fb_rng x5_51; omega) (by have := fb_rng x3_10; have := fb_rng x5_51; omega) (by have := fb_rng x3_10; have := fb_rng x5_51; omega) (by have := fb_rng x3_10; have := fb_rng x5_51; omega) (lv_sub hl_51 [0, 1, 2, 3, 4, 5] rfl)
      refine lv_iload hx hb dX6_layFlight_10 (lv_at hl_10 4 rfl) ?_
      refine lv_iload_n hx hb dX6_layFlight_12 rfl (lv_at hl_10 3 rfl) ?_
      refine lv_icmp_ge (tgt := 116) hx hb dX6_layFlight_13 (by decide) (fun c75 => ?_) (fun c75 => ?_)
      · skip
        have tc75 := nu_le c75
        rw [← hQ]
        exact en_v Z S_10 F_10 trivial dX6_layFlight_116
      · skip
        have tc75 := nu_nle c75
        refine lv_aload_n hx hb dX6_layFlight_16 rfl (lv_at hl_10 1 rfl) ?_
        refine tr_getr Z.1 Z.2.2.2.1 S_10.1 S_10.2 ha1 ta1 rfl rfl (fun _ h => List.mem_cons_of_mem _ (List.mem_append_left _ (List.mem_append_right _ h))) 9 (by decide) rfl (hts _ (List.mem_of_getElem? (i := 2) rfl)) dX6_layFlight_17 (fun q76 eq76 hq76 tq76 => ?_)
        have tq76 : τ q76 = (21, 0) := tq76
        refine lv_iload_n hx hb dX6_layFlight_20 rfl (lv_at hl_10 2 rfl) ?_
        refine tr_iald Z.1 Z.2.2.2.1 S_10.1 S_10.2 hq76 tq76 rfl (by omega) (by omega) dX6_layFlight_21 (fun v77 ev77 lv77 uv77 => ?_)
        refine lv_iload_n hx hb dX6_layFlight_22 rfl (lv_at hl_10 3 rfl) ?_
        refine lv_iload hx hb dX6_layFlight_23 (lv_at hl_10 4 rfl) ?_
        refine tc_sni Z.1 Z.2.2.2.1 Z.2.2.2.2.1 Z.2.2.2.2.2 S_10.1 (k_X9_share l D cy S_10.2 v77 x3_10 x4_10) ⟨va_cnB (host := RX9) 3 hts gX6_layFlight_X9_share_n65 rfl rfl rfl (Z.2.2.2.2.1 _ (by decide +kernel)) (hts _ (List.mem_of_getElem? (i := 5) rfl)) (by decide +kernel) ⟨Nat.le_of_ble_eq_true rfl, Nat.le_of_ble_eq_true rfl⟩, hts _ (List.mem_of_getElem? (i := 4) rfl), trivial⟩ rfl hl_10.1 rfl (Nat.le_of_ble_eq_true rfl) dX6_layFlight_25 ⟨Nat.zero_le _, Nat.zero_le _⟩ (fun v81 E78 H79 k80 W78 I78 G78 p78 => ?_)
        have q78 := p78
        have q78 := q78.symm
        subst q78
        have S78 : Now D TB cy (va_A (va_pl L E) sz) s L τ E_10 H79 k80 := ⟨W78, I78⟩
        refine lv_istore (lv' := [(5, .int v81), (0, .ref a0), (1, .ref a1), (2, .int a2), (3, .int x3_10), (4, .int x4_10)]) hx hb dX6_layFlight_28 hl_10 (by decide) rfl (fun l82 hl83 => ?_)
        refine lv_iload_n hx hb dX6_layFlight_30 rfl (lv_at hl83 3 rfl) ?_
        refine lv_if_ne (tgt := 51) hx hb dX6_layFlight_31 (by decide) (fun c84 => ?_) (fun c84 => ?_)
        · skip
          have tc84 := nu_ne c84
          have uc84 : (0 : Int32).toInt = 0 := rfl
          exact J51 v81 E_10 H79 k80 l82 S78 F_10 (by have := fb_rng v81; have := fb_rng x3_10; omega) (by have := fb_rng v81; have := fb_rng x3_10; omega) (by have := fb_rng v81; have := fb_rng x3_10; omega) (by have := fb_rng v81; have := fb_rng x3_10; omega) (by have := fb_rng v81; have := fb_rng x3_10; omega) (lv_sub hl83 [1, 2, 3, 4, 5, 0] rfl)
        · skip
          have tc84 := nu_eq c84
          have uc84 : (0 : Int32).toInt = 0 := rfl
          refine lv_iload hx hb dX6_layFlight_34 (lv_at hl83 5 rfl) ?_
          refine lv_if_ne (tgt := 51) hx hb dX6_layFlight_36 (by decide) (fun c85 => ?_) (fun c85 => ?_)
          · skip
            have tc85 := nu_ne c85
            have uc85 : (0 : Int32).toInt = 0 := rfl
            exact J51 v81 E_10 H79 k80 l82 S78 F_10 (by have := fb_rng v81; have := fb_rng x3_10; omega) (by have := fb_rng v81; have := fb_rng x3_10; omega) (by have := fb_rng v81; have := fb_rng x3_10; omega) (by have := fb_rng v81; have := fb_rng x3_10; omega) (by have := fb_rng v81; have := fb_rng x3_10; omega) (lv_sub hl83 [1, 2, 3, 4, 5, 0] rfl)
          · skip
            have tc85 := nu_eq c85
            have uc85 : (0 : Int32).toInt = 0 := rfl
            refine lv_aload_n hx hb dX6_layFlight_39 rfl (lv_at hl83 2 rfl) ?_
            refine tr_geti Z.1 Z.2.2.2.1 S78.1 S78.2 ha1 ta1 rfl rfl (fun _ h => List.mem_cons_of_mem _ (List.mem_append_left _ (List.mem_append_right _ h))) 5 (by decide) rfl (hts _ (List.mem_of_getElem? (i := 3) rfl)) dX6_layFlight_40 (fun v86 ev86 lv86 uv86 => ?_)
            obtain ⟨v87, ev87, tv87⟩ : ∃ v : Int32, Int32.ofInt (1) = v ∧ v.toInt = 1 := ⟨_, rfl, by decide +kernel⟩
            refine lv_iconst hx hb dX6_layFlight_43 ev87 ?_
            refine lv_icmp_ne (tgt := 51) hx hb dX6_layFlight_44 (by decide) (fun c88 => ?_) (fun c88 => ?_)
            · skip
              have tc88 := nu_ne c88
              exact J51 v81 E_10 H79 k80 l82 S78 F_10 (by have := fb_rng v81; have := fb_rng x3_10; omega) (by have := fb_rng v81; have := fb_rng x3_10; omega) (by have := fb_rng v81; have := fb_rng x3_10; omega) (by have := fb_rng v81; have := fb_rng x3_10; omega) (by have := fb_rng v81; have := fb_rng x3_10; omega) (lv_sub hl83 [1, 2, 3, 4, 5, 0] rfl)
            · skip
              have tc88 := nu_eq c88
              obtain ⟨v89, ev89, tv89⟩ : ∃ v : Int32, Int32.ofInt (1) = v ∧ v.toInt = 1 := ⟨_, rfl, by decide +kernel⟩
              refine lv_iconst hx hb dX6_layFlight_47 ev89 ?_
              refine lv_goto (tgt := 52) hx hb dX6_layFlight_48 (by decide) ?_
              exact J52 v81 v89 E_10 H79 k80 l82 S78 F_10 (by have := fb_rng v81; have := fb_rng x3_10; omega) (by have := fb_rng v81; have := fb_rng x3_10; omega) (by have := fb_rng v81; have := fb_rng x3_10; omega) (by have := fb_rng v81; have := fb_rng x3_10; omega) (by have := fb_rng v81; have := fb_rng x3_10; omega) (by have := fb_rng v81; have := fb_rng x3_10; omega) (by have := fb_rng v81; have := fb_rng x3_10; omega) (lv_sub hl83 [1, 2, 3, 4, 5, 0] rfl)
  refine lv_aload_n hx hb dX6_layFlight_0 rfl (lv_at hl 1 rfl) ?_
  refine tr_getr Z.1 Z.2.2.2.1 S0.1 S0.2 ha1 ta1 rfl rfl (fun _ h => List.mem_cons_of_mem _ (List.mem_append_left _ (List.mem_append_right _ h))) 8 (by decide) rfl (hts _ (List.mem_of_getElem? (i := 1) rfl)) dX6_layFlight_1 (fun q90 eq90 hq90 tq90 => ?_)
  have tq90 : τ q90 = (20, 0) := tq90
  refine lv_iload_n hx hb dX6_layFlight_4 rfl (lv_at hl 2 rfl) ?_
  refine tr_iald Z.1 Z.2.2.2.1 S0.1 S0.2 hq90 tq90 rfl (by omega) (by omega) dX6_layFlight_5 (fun v91 ev91 lv91 uv91 => ?_)
  refine lv_istore_n (lv' := [(3, .int v91), (0, .ref a0), (1, .ref a1), (2, .int a2)]) hx hb dX6_layFlight_6 rfl hl (by decide) rfl (fun l92 hl93 => ?_)
  obtain ⟨v94, ev94, tv94⟩ : ∃ v : Int32, Int32.ofInt (0) = v ∧ v.toInt = 0 := ⟨_, rfl, by decide +kernel⟩
  refine lv_iconst hx hb dX6_layFlight_7 ev94 ?_
  refine lv_istore (lv' := [(4, .int v94), (3, .int v91), (0, .ref a0), (1, .ref a1), (2, .int a2)]) hx hb dX6_layFlight_8 hl93 (by decide) rfl (fun l95 hl96 => ?_)
  exact J10 _ v91 v94 E s.heap [] l95 S0 F0_ (by have := fb_rng v91; omega) (by have := fb_rng v91; omega) (by have := fb_rng v91; omega) (Nat.lt_succ_self _) (lv_sub hl96 [2, 3, 4, 1, 0] rfl)

set_option maxHeartbeats 4000000 in
set_option maxRecDepth 100000 in
theorem k_X6_layFlight_v1 (l : Launch) (D : va_G) (cy : Nat → ClassId) {L : List Nat} {τ : Nat → Ro} {E : Ec} (hI : Inv TB cy L τ E) {a0 : Nat} (ha0 : a0 ∈ L) (ta0 : τ a0 = (5, 1)) {a1 : Nat} (ha1 : a1 ∈ L) (ta1 : τ a1 = (1, 2)) (a2 : Int32) (la2 : 0 ≤ a2.toInt) (ua2 : a2.toInt ≤ 2) : CtV l yX6_layFlight wsX6_layFlight { frames := 2, cells := 0, slots := 0, locals := 45 } D TB cy L τ E [.ref a0, .ref a1, .int a2] (inW [(5, 1), (100, 1), (101, 1), (102, 1), (103, 1), (104, 1), (105, 1), (106, 1), (107, 1), (108, 1), (109, 1), (110, 1), (111, 1), (112, 1)]) (fun E' => True) := by
  intro sz
  refine sta (cc := cX6_layFlight) (maxL := 7) hI (by decide) rfl (Nat.le_of_ble_eq_true rfl) (fun p e s m args below meth c ls hsz Z S0 hl => ?_)
  have hx := Z.1.1
  have hb := Z.1.2.1
  have hts := Z.1.2.2.2.2
  have F0_ : Fr L τ (inW [(5, 1), (100, 1), (101, 1), (102, 1), (103, 1), (104, 1), (105, 1), (106, 1), (107, 1), (108, 1), (109, 1), (110, 1), (111, 1), (112, 1)]) E E := Fr.refl
  have hl : lv_has ls 7 [(0, .ref a0), (1, .ref a1), (2, .int a2)] := hl
  generalize hQ : MQ below _ args s 0 0 _ = QQ
  have J10 : ∀ (n : Nat) (x3_10 : Int32) (x4_10 : Int32) (E_10 : Ec) (H_10 : Heap) (k_10 : List Loc) (l_10 : Array Slot), Now D TB cy (va_A (va_pl L E) sz) s L τ E_10 H_10 k_10 → Fr L τ (inW [(5, 1), (100, 1), (101, 1), (102, 1), (103, 1), (104, 1), (105, 1), (106, 1), (107, 1), (108, 1), (109, 1), (110, 1), (111, 1), (112, 1)]) E E_10 → (0 ≤ a2.toInt) → (a2.toInt ≤ 2) → (0 ≤ x4_10.toInt) → (2147483647 - x4_10.toInt).toNat < n → lv_has l_10 7 [(0, .ref a0), (1, .ref a1), (2, .int a2), (3, .int x3_10), (4, .int x4_10)] → W p l e { frames := 2, cells := 0, slots := 0, locals := 45 } s m args below meth c H_10 k_10 0 0 QQ (F0 m 10 l_10 []) := by
    intro n
    induction n with
    | zero => intro x3_10 x4_10 E_10 H_10 k_10 l_10 S_10 F_10 z1 z2 z3 hm hl_10; exact absurd hm (Nat.not_lt_zero _)
    | succ n ih =>
      intro x3_10 x4_10 E_10 H_10 k_10 l_10 S_10 F_10 z1 z2 z3 hm hl_10
      have ih_10 := ih
      have J107 : ∀ (y0_107 : Nat) (y1_107 : Nat) (y2_107 : Int32) (E_107 : Ec) (H_107 : Heap) (k_107 : List Loc) (l_107 : Array Slot), Now D TB cy (va_A (va_pl L E) sz) s L τ E_107 H_107 k_107 → Fr L τ (inW [(5, 1), (100, 1), (101, 1), (102, 1), (103, 1), (104, 1), (105, 1), (106, 1), (107, 1), (108, 1), (109, 1), (110, 1), (111, 1), (112, 1)]) E E_107 → (0 ≤ a2.toInt) → (a2.toInt ≤ 2) → (1 ≤ x3_10.toInt) → (0 ≤ x4_10.toInt) → (x4_10.toInt ≤ 2147483646) → (y0_107 ∈ L) → (τ y0_107 = (5, 1)) → (y1_107 ∈ L) → (τ y1_107 = (1, 2)) → lv_has l_107 7 [(0, .ref a0), (1, .ref a1), (2, .int a2), (3, .int x3_10), (4, .int x4_10)] → W p l e { frames := 2, cells := 0, slots := 0, locals := 45 } s m args below meth c H_107 k_107 0 0 QQ (F0 m 107 l_107 [.int y2_107, .ref y1_107, .ref y0_107]) := by
        intro y0_107 y1_107 y2_107 E_107 H_107 k_107 l_107 S_107 F_107 z4 z5 z6 z7 z8 z9 z10 z11 z12 hl_107
        refine tc_vv Z.1 Z.2.2.2.1 Z.2.2.2.2.1 Z.2.2.2.2.2 S_107.1 S_107.2 z9 z10 rfl rfl (k_X6_add_v1 l D cy S_107.2 z9 z10 z11 z12 y2_107) (cwV 2 hts gX6_layFlight_X6_add rfl rfl rfl (by decide +kernel) ⟨Nat.le_of_ble_eq_true rfl, Nat.le_of_ble_eq_true rfl⟩) rfl hl_107.1 rfl (Nat.le_of_ble_eq_true rfl) dX6_layFlight_107 ⟨Nat.zero_le _, Nat.zero_le _⟩ (fun E13 H14 k15 W13 I13 G13 p13 => ?_)
        have S13 : Now D TB cy (va_A (va_pl L E) sz) s L τ E13 H14 k15 := ⟨W13, I13⟩
        have F13 : Fr L τ (inW [(5, 1), (100, 1), (101, 1), (102, 1), (103, 1), (104, 1), (105, 1), (106, 1), (107, 1), (108, 1), (109, 1), (110, 1), (111, 1), (112, 1)]) E E13 := F_107.trans (G13.mono (inW_mono (by decide)))
        obtain ⟨v17, ev17⟩ : ∃ y : Int32, x4_10 + Int32.ofInt (1) = y := ⟨_, rfl⟩
        have tv17 : v17.toInt = x4_10.toInt + (1) := by rw [← ev17]; exact (fb_addI (by rw [show (Int32.ofInt (1)).toInt = 1 from by decide +kernel]; omega) (by rw [show (Int32.ofInt (1)).toInt = 1 from by decide +kernel]; omega)).trans (by rw [show (Int32.ofInt (1)).toInt = 1 from by decide +kernel])
        refine lv_iinc (v := v17) (lv' := [(4, .int v17), (0, .ref a0), (1, .ref a1), (2, .int a2), (3, .int x3_10)]) hx hb dX6_layFlight_110 hl_107 (k := 4) rfl ev17 (by decide) rfl (fun l18 hl19 => ?_)
        refine lv_goto (tgt := 10) hx hb dX6_layFlight_113 (by decide) ?_
        exact ih_10 x3_10 v17 E13 H14 k15 l18 S13 F13 (by have := fb_rng v17; have := fb_rng x3_10; omega) (by have := fb_rng v17; have := fb_rng x3_10; omega) (by have := fb_rng v17; have := fb_rng x3_10; omega) (by omega) (lv_sub hl19 [1, 2, 3, 4, 0] rfl)
      have J87 : ∀ (x5_87 : Int32) (x6_87 : Int32) (y0_87 : Nat) (y1_87 : Int32) (y2_87 : Int32) (E_87 : Ec) (H_87 : Heap) (k_87 : List Loc) (l_87 : Array Slot), Now D TB cy (va_A (va_pl L E) sz) s L τ E_87 H_87 k_87 → Fr L τ (inW [(5, 1), (100, 1), (101, 1), (102, 1), (103, 1), (104, 1), (105, 1), (106, 1), (107, 1), (108, 1), (109, 1), (110, 1), (111, 1), (112, 1)]) E E_87 → (0 ≤ a2.toInt) → (a2.toInt ≤ 2) → (1 ≤ x3_10.toInt) → (0 ≤ x4_10.toInt) → (x4_10.toInt ≤ 2147483646) → (0 ≤ x6_87.toInt) → (x6_87.toInt ≤ 1) → (y0_87 ∈ L) → (τ y0_87 = (5, 1)) → (0 ≤ y1_87.toInt) → (y1_87.toInt ≤ 0) → (0 ≤ y2_87.toInt) → (y2_87.toInt ≤ 1) → lv_has l_87 7 [(0, .ref a0), (1, .ref a1), (2, .int a2), (3, .int x3_10), (4, .int x4_10), (5, .int x5_87), (6, .int x6_87)] → W p l e { frames := 2, cells := 0, slots := 0, locals := 45 } s m args below meth c H_87 k_87 0 0 QQ (F0 m 87 l_87 [.int y2_87, .int y1_87, .ref y0_87]) := by
        intro x5_87 x6_87 y0_87 y1_87 y2_87 E_87 H_87 k_87 l_87 S_87 F_87 z20 z21 z22 z23 z24 z25 z26 z27 z28 z29 z30 z31 z32 hl_87
        refine tc_vv Z.1 Z.2.2.2.1 Z.2.2.2.2.1 Z.2.2.2.2.2 S_87.1 S_87.2 z27 z28 rfl rfl (k_X6_put_v1_0 l D cy S_87.2 z27 z28 y1_87 (by omega) (by omega) y2_87 (by omega) (by omega)) (cwV 2 hts gX6_layFlight_X6_put rfl rfl rfl (by decide +kernel) ⟨Nat.le_of_ble_eq_true rfl, Nat.le_of_ble_eq_true rfl⟩) rfl hl_87.1 rfl (Nat.le_of_ble_eq_true rfl) dX6_layFlight_87 ⟨Nat.zero_le _, Nat.zero_le _⟩ (fun E33 H34 k35 W33 I33 G33 p33 => ?_)
        have S33 : Now D TB cy (va_A (va_pl L E) sz) s L τ E33 H34 k35 := ⟨W33, I33⟩
        have F33 : Fr L τ (inW [(5, 1), (100, 1), (101, 1), (102, 1), (103, 1), (104, 1), (105, 1), (106, 1), (107, 1), (108, 1), (109, 1), (110, 1), (111, 1), (112, 1)]) E E33 := F_87.trans (G33.mono (inW_mono (by decide)))
        refine lv_aload_n hx hb dX6_layFlight_90 rfl (lv_at hl_87 0 rfl) ?_
        refine lv_aload_n hx hb dX6_layFlight_91 rfl (lv_at hl_87 1 rfl) ?_
        refine lv_iload hx hb dX6_layFlight_92 (lv_at hl_87 6 rfl) ?_
        refine lv_if_eq (tgt := 105) hx hb dX6_layFlight_94 (by decide) (fun c37 => ?_) (fun c37 => ?_)
        · skip
          have tc37 := nu_eq c37
          have uc37 : (0 : Int32).toInt = 0 := rfl
          refine lv_iload hx hb dX6_layFlight_105 (lv_at hl_87 5 rfl) ?_
          exact J107 a0 a1 x5_87 E33 H34 k35 l_87 S33 F33 (by have := fb_rng x3_10; have := fb_rng x5_87; omega) (by have := fb_rng x3_10; have := fb_rng x5_87; omega) (by have := fb_rng x3_10; have := fb_rng x5_87; omega) (by have := fb_rng x3_10; have := fb_rng x5_87; omega) (by have := fb_rng x3_10; have := fb_rng x5_87; omega) ha0 ta0 ha1 ta1 (lv_sub hl_87 [0, 1, 2, 3, 4] rfl)
        · skip
          have tc37 := nu_ne c37
          have uc37 : (0 : Int32).toInt = 0 := rfl
          refine lv_iload hx hb dX6_layFlight_97 (lv_at hl_87 5 rfl) ?_
          obtain ⟨v38, ev38, tv38⟩ : ∃ v : Int32, (Int8.ofInt (30)).toInt32 = v ∧ v.toInt = 30 := ⟨_, rfl, by decide +kernel⟩
          refine lv_bipush hx hb dX6_layFlight_99 ev38 ?_
          refine lv_iadd hx hb dX6_layFlight_101 ?_
          refine lv_topi (fun v39 ev39 => ?_)
          refine lv_goto (tgt := 107) hx hb dX6_layFlight_102 (by decide) ?_
          exact J107 a0 a1 v39 E33 H34 k35 l_87 S33 F33 (by have := fb_rng x3_10; have := fb_rng x5_87; omega) (by have := fb_rng x3_10; have := fb_rng x5_87; omega) (by have := fb_rng x3_10; have := fb_rng x5_87; omega) (by have := fb_rng x3_10; have := fb_rng x5_87; omega) (by have := fb_rng x3_10; have := fb_rng x5_87; omega) ha0 ta0 ha1 ta1 (lv_sub hl_87 [0, 1, 2, 3, 4] rfl)
      have J52 : ∀ (x5_52 : Int32) (y0_52 : Int32) (E_52 : Ec) (H_52 : Heap) (k_52 : List Loc) (l_52 : Array Slot), Now D TB cy (va_A (va_pl L E) sz) s L τ E_52 H_52 k_52 → Fr L τ (inW [(5, 1), (100, 1), (101, 1), (102, 1), (103, 1), (104, 1), (105, 1), (106, 1), (107, 1), (108, 1), (109, 1), (110, 1), (111, 1), (112, 1)]) E E_52 → (0 ≤ a2.toInt) → (a2.toInt ≤ 2) → (1 ≤ x3_10.toInt) → (0 ≤ x4_10.toInt) → (x4_10.toInt ≤ 2147483646) → (0 ≤ y0_52.toInt) → (y0_52.toInt ≤ 1) → lv_has l_52 7 [(0, .ref a0), (1, .ref a1), (2, .int a2), (3, .int x3_10), (4, .int x4_10), (5, .int x5_52)] → W p l e { frames := 2, cells := 0, slots := 0, locals := 45 } s m args below meth c H_52 k_52 0 0 QQ (F0 m 52 l_52 [.int y0_52]) := by
        intro x5_52 y0_52 E_52 H_52 k_52 l_52 S_52 F_52 z40 z41 z42 z43 z44 z45 z46 hl_52
        refine lv_istore (lv' := [(6, .int y0_52), (0, .ref a0), (1, .ref a1), (2, .int a2), (3, .int x3_10), (4, .int x4_10), (5, .int x5_52)]) hx hb dX6_layFlight_52 hl_52 (by decide) rfl (fun l47 hl48 => ?_)
        refine lv_aload_n hx hb dX6_layFlight_54 rfl (lv_at hl48 1 rfl) ?_
        obtain ⟨v49, ev49, tv49⟩ : ∃ v : Int32, (Int8.ofInt (7)).toInt32 = v ∧ v.toInt = 7 := ⟨_, rfl, by decide +kernel⟩
        refine lv_bipush hx hb dX6_layFlight_55 ev49 ?_
        refine lv_iload_n hx hb dX6_layFlight_57 rfl (lv_at hl48 3 rfl) ?_
        refine tc_vv Z.1 Z.2.2.2.1 Z.2.2.2.2.1 Z.2.2.2.2.2 S_52.1 S_52.2 ha0 ta0 rfl rfl (k_X6_put_v1_7 l D cy S_52.2 ha0 ta0 v49 (by omega) (by omega) a2) (cwV 2 hts gX6_layFlight_X6_put rfl rfl rfl (by decide +kernel) ⟨Nat.le_of_ble_eq_true rfl, Nat.le_of_ble_eq_true rfl⟩) rfl hl48.1 rfl (Nat.le_of_ble_eq_true rfl) dX6_layFlight_58 ⟨Nat.zero_le _, Nat.zero_le _⟩ (fun E50 H51 k52 W50 I50 G50 p50 => ?_)
        have S50 : Now D TB cy (va_A (va_pl L E) sz) s L τ E50 H51 k52 := ⟨W50, I50⟩
        have F50 : Fr L τ (inW [(5, 1), (100, 1), (101, 1), (102, 1), (103, 1), (104, 1), (105, 1), (106, 1), (107, 1), (108, 1), (109, 1), (110, 1), (111, 1), (112, 1)]) E E50 := F_52.trans (G50.mono (inW_mono (by decide)))
        refine lv_aload_n hx hb dX6_layFlight_61 rfl (lv_at hl48 1 rfl) ?_
        obtain ⟨v54, ev54, tv54⟩ : ∃ v : Int32, (Int8.ofInt (8)).toInt32 = v ∧ v.toInt = 8 := ⟨_, rfl, by decide +kernel⟩
        refine lv_bipush hx hb dX6_layFlight_62 ev54 ?_
        obtain ⟨v55, ev55, tv55⟩ : ∃ v : Int32, Int32.ofInt (-1) = v ∧ v.toInt = -1 := ⟨_, rfl, by decide +kernel⟩
        refine lv_iconst hx hb dX6_layFlight_64 ev55 ?_
        refine tc_vv Z.1 Z.2.2.2.1 Z.2.2.2.2.1 Z.2.2.2.2.2 S50.1 S50.2 ha0 ta0 rfl rfl (k_X6_put_v1_8 l D cy S50.2 ha0 ta0 v54 (by omega) (by omega) v55) (cwV 2 hts gX6_layFlight_X6_put rfl rfl rfl (by decide +kernel) ⟨Nat.le_of_ble_eq_true rfl, Nat.le_of_ble_eq_true rfl⟩) rfl hl48.1 rfl (Nat.le_of_ble_eq_true rfl) dX6_layFlight_65 ⟨Nat.zero_le _, Nat.zero_le _⟩ (fun E56 H57 k58 W56 I56 G56 p56 => ?_)
        have S56 : Now D TB cy (va_A (va_pl L E) sz) s L τ E56 H57 k58 := ⟨W56, I56⟩
        have F56 : Fr L τ (inW [(5, 1), (100, 1), (101, 1), (102, 1), (103, 1), (104, 1), (105, 1), (106, 1), (107, 1), (108, 1), (109, 1), (110, 1), (111, 1), (112, 1)]) E E56 := F50.trans (G56.mono (inW_mono (by decide)))
        refine lv_aload_n hx hb dX6_layFlight_68 rfl (lv_at hl48 1 rfl) ?_
        obtain ⟨v60, ev60, tv60⟩ : ∃ v : Int32, Int32.ofInt (4) = v ∧ v.toInt = 4 := ⟨_, rfl, by decide +kernel⟩
        refine lv_iconst hx hb dX6_layFlight_69 ev60 ?_
        refine lv_iload hx hb dX6_layFlight_70 (lv_at hl48 6 rfl) ?_
        refine tc_vv Z.1 Z.2.2.2.1 Z.2.2.2.2.1 Z.2.2.2.2.2 S56.1 S56.2 ha0 ta0 rfl rfl (k_X6_put_v1_4 l D cy S56.2 ha0 ta0 v60 (by omega) (by omega) x5_52) (cwV 2 hts gX6_layFlight_X6_put rfl rfl rfl (by decide +kernel) ⟨Nat.le_of_ble_eq_true rfl, Nat.le_of_ble_eq_true rfl⟩) rfl hl48.1 rfl (Nat.le_of_ble_eq_true rfl) dX6_layFlight_72 ⟨Nat.zero_le _, Nat.zero_le _⟩ (fun E61 H62 k63 W61 I61 G61 p61 => ?_)
        have S61 : Now D TB cy (va_A (va_pl L E) sz) s L τ E61 H62 k63 := ⟨W61, I61⟩
        have F61 : Fr L τ (inW [(5, 1), (100, 1), (101, 1), (102, 1), (103, 1), (104, 1), (105, 1), (106, 1), (107, 1), (108, 1), (109, 1), (110, 1), (111, 1), (112, 1)]) E E61 := F56.trans (G61.mono (inW_mono (by decide)))
        refine lv_aload_n hx hb dX6_layFlight_75 rfl (lv_at hl48 1 rfl) ?_
        obtain ⟨v65, ev65, tv65⟩ : ∃ v : Int32, Int32.ofInt (0) = v ∧ v.toInt = 0 := ⟨_, rfl, by decide +kernel⟩
        refine lv_iconst hx hb dX6_layFlight_76 ev65 ?_
        refine lv_iload hx hb dX6_layFlight_77 (lv_at hl48 0 rfl) ?_
        refine lv_if_eq (tgt := 86) hx hb dX6_layFlight_79 (by decide) (fun c66 => ?_) (fun c66 => ?_)
        · skip
          have tc66 := nu_eq c66
          have uc66 : (0 : Int32).toInt = 0 := rfl
          obtain ⟨v67, ev67, tv67⟩ : ∃ v : Int32, Int32.ofInt (0) = v ∧ v.toInt = 0 := ⟨_, rfl, by decide +kernel⟩
          refine lv_iconst hx hb dX6_layFlight_86 ev67 ?_
          exact J87 x5_52 y0_52 a0 v65 v67 E61 H62 k63 l47 S61 F61 (by have := fb_rng x3_10; have := fb_rng x5_52; omega) (by have := fb_rng x3_10; have := fb_rng x5_52; omega) (by have := fb_rng x3_10; have := fb_rng x5_52; omega) (by have := fb_rng x3_10; have := fb_rng x5_52; omega) (by have := fb_rng x3_10; have := fb_rng x5_52; omega) (by have := fb_rng x3_10; have := fb_rng x5_52; omega) (by have := fb_rng x3_10; have := fb_rng x5_52; omega) ha0 ta0 (by have := fb_rng x3_10; have := fb_rng x5_52; omega) (by have := fb_rng x3_10; have := fb_rng x5_52; omega) (by have := fb_rng x3_10; have := fb_rng x5_52; omega) (by have := fb_rng x3_10; have := fb_rng x5_52; omega) (lv_sub hl48 [1, 2, 3, 4, 5, 6, 0] rfl)
        · skip
          have tc66 := nu_ne c66
          have uc66 : (0 : Int32).toInt = 0 := rfl
          obtain ⟨v68, ev68, tv68⟩ : ∃ v : Int32, Int32.ofInt (1) = v ∧ v.toInt = 1 := ⟨_, rfl, by decide +kernel⟩
          refine lv_iconst hx hb dX6_layFlight_82 ev68 ?_
          refine lv_goto (tgt := 87) hx hb dX6_layFlight_83 (by decide) ?_
          exact J87 x5_52 y0_52 a0 v65 v68 E61 H62 k63 l47 S61 F61 (by have := fb_rng x3_10; have := fb_rng x5_52; omega) (by have := fb_rng x3_10; have := fb_rng x5_52; omega) (by have := fb_rng x3_10; have := fb_rng x5_52; omega) (by have := fb_rng x3_10; have := fb_rng x5_52; omega) (by have := fb_rng x3_10; have := fb_rng x5_52; omega) (by have := fb_rng x3_10; have := fb_rng x5_52; omega) (by have := fb_rng x3_10; have := fb_rng x5_52; omega) ha0 ta0 (by have := fb_rng x3_10; have := fb_rng x5_52; omega) (by have := fb_rng x3_10; have := fb_rng x5_52; omega) (by have := fb_rng x3_10; have := fb_rng x5_52; omega) (by have := fb_rng x3_10; have := fb_rng x5_52; omega) (lv_sub hl48 [1, 2, 3, 4, 5, 6, 0] rfl)
      have J51 : ∀ (x5_51 : Int32) (E_51 : Ec) (H_51 : Heap) (k_51 : List Loc) (l_51 : Array Slot), Now D TB cy (va_A (va_pl L E) sz) s L τ E_51 H_51 k_51 → Fr L τ (inW [(5, 1), (100, 1), (101, 1), (102, 1), (103, 1), (104, 1), (105, 1), (106, 1), (107, 1), (108, 1), (109, 1), (110, 1), (111, 1), (112, 1)]) E E_51 → (0 ≤ a2.toInt) → (a2.toInt ≤ 2) → (1 ≤ x3_10.toInt) → (0 ≤ x4_10.toInt) → (x4_10.toInt ≤ 2147483646) → lv_has l_51 7 [(0, .ref a0), (1, .ref a1), (2, .int a2), (3, .int x3_10), (4, .int x4_10), (5, .int x5_51)] → W p l e { frames := 2, cells := 0, slots := 0, locals := 45 } s m args below meth c H_51 k_51 0 0 QQ (F0 m 51 l_51 []) := by
        intro x5_51 E_51 H_51 k_51 l_51 S_51 F_51 z69 z70 z71 z72 z73 hl_51
        obtain ⟨v74, ev74, tv74⟩ : ∃ v : Int32, Int32.ofInt (0) = v ∧ v.toInt = 0 := ⟨_, rfl, by decide +kernel⟩
        refine lv_iconst hx hb dX6_layFlight_51 ev74 ?_
        exact J52 x5_51 v74 E_51 H_51 k_51 l_51 S_51 F_51 (by have := fb_rng x3_10; have := fb_rng x5_51; omega) (by have := fb_rng x3_10; have := fb_rng x5_51; omega) (by have := fb_rng x3_10; have := fb_rng x5_51; omega) (by have := fb_rng x3_10; have := fb_rng x5_51; omega) (by have := fb_rng x3_10; have := fb_rng x5_51; omega) (by have := fb_rng x3_10; have := fb_rng x5_51; omega) (by have := fb_rng x3_10; have := fb_rng x5_51; omega) (lv_sub hl_51 [0, 1, 2, 3, 4, 5] rfl)
      refine lv_iload hx hb dX6_layFlight_10 (lv_at hl_10 4 rfl) ?_
      refine lv_iload_n hx hb dX6_layFlight_12 rfl (lv_at hl_10 3 rfl) ?_
      refine lv_icmp_ge (tgt := 116) hx hb dX6_layFlight_13 (by decide) (fun c75 => ?_) (fun c75 => ?_)
      · skip
        have tc75 := nu_le c75
        rw [← hQ]
        exact en_v Z S_10 F_10 trivial dX6_layFlight_116
      · skip
        have tc75 := nu_nle c75
        refine lv_aload_n hx hb dX6_layFlight_16 rfl (lv_at hl_10 1 rfl) ?_
        refine tr_getr Z.1 Z.2.2.2.1 S_10.1 S_10.2 ha1 ta1 rfl rfl (fun _ h => List.mem_cons_of_mem _ (List.mem_append_left _ (List.mem_append_right _ h))) 9 (by decide) rfl (hts _ (List.mem_of_getElem? (i := 2) rfl)) dX6_layFlight_17 (fun q76 eq76 hq76 tq76 => ?_)
        have tq76 : τ q76 = (21, 2) := tq76
        refine lv_iload_n hx hb dX6_layFlight_20 rfl (lv_at hl_10 2 rfl) ?_
        refine tr_iald Z.1 Z.2.2.2.1 S_10.1 S_10.2 hq76 tq76 rfl (by omega) (by omega) dX6_layFlight_21 (fun v77 ev77 lv77 uv77 => ?_)
        refine lv_iload_n hx hb dX6_layFlight_22 rfl (lv_at hl_10 3 rfl) ?_
        refine lv_iload hx hb dX6_layFlight_23 (lv_at hl_10 4 rfl) ?_
        refine tc_sni Z.1 Z.2.2.2.1 Z.2.2.2.2.1 Z.2.2.2.2.2 S_10.1 (k_X9_share l D cy S_10.2 v77 x3_10 x4_10) ⟨va_cnB (host := RX9) 3 hts gX6_layFlight_X9_share_n65 rfl rfl rfl (Z.2.2.2.2.1 _ (by decide +kernel)) (hts _ (List.mem_of_getElem? (i := 5) rfl)) (by decide +kernel) ⟨Nat.le_of_ble_eq_true rfl, Nat.le_of_ble_eq_true rfl⟩, hts _ (List.mem_of_getElem? (i := 4) rfl), trivial⟩ rfl hl_10.1 rfl (Nat.le_of_ble_eq_true rfl) dX6_layFlight_25 ⟨Nat.zero_le _, Nat.zero_le _⟩ (fun v81 E78 H79 k80 W78 I78 G78 p78 => ?_)
        have q78 := p78
        have q78 := q78.symm
        subst q78
        have S78 : Now D TB cy (va_A (va_pl L E) sz) s L τ E_10 H79 k80 := ⟨W78, I78⟩
        refine lv_istore (lv' := [(5, .int v81), (0, .ref a0), (1, .ref a1), (2, .int a2), (3, .int x3_10), (4, .int x4_10)]) hx hb dX6_layFlight_28 hl_10 (by decide) rfl (fun l82 hl83 => ?_)
        refine lv_iload_n hx hb dX6_layFlight_30 rfl (lv_at hl83 3 rfl) ?_
        refine lv_if_ne (tgt := 51) hx hb dX6_layFlight_31 (by decide) (fun c84 => ?_) (fun c84 => ?_)
        · skip
          have tc84 := nu_ne c84
          have uc84 : (0 : Int32).toInt = 0 := rfl
          exact J51 v81 E_10 H79 k80 l82 S78 F_10 (by have := fb_rng v81; have := fb_rng x3_10; omega) (by have := fb_rng v81; have := fb_rng x3_10; omega) (by have := fb_rng v81; have := fb_rng x3_10; omega) (by have := fb_rng v81; have := fb_rng x3_10; omega) (by have := fb_rng v81; have := fb_rng x3_10; omega) (lv_sub hl83 [1, 2, 3, 4, 5, 0] rfl)
        · skip
          have tc84 := nu_eq c84
          have uc84 : (0 : Int32).toInt = 0 := rfl
          refine lv_iload hx hb dX6_layFlight_34 (lv_at hl83 5 rfl) ?_
          refine lv_if_ne (tgt := 51) hx hb dX6_layFlight_36 (by decide) (fun c85 => ?_) (fun c85 => ?_)
          · skip
            have tc85 := nu_ne c85
            have uc85 : (0 : Int32).toInt = 0 := rfl
            exact J51 v81 E_10 H79 k80 l82 S78 F_10 (by have := fb_rng v81; have := fb_rng x3_10; omega) (by have := fb_rng v81; have := fb_rng x3_10; omega) (by have := fb_rng v81; have := fb_rng x3_10; omega) (by have := fb_rng v81; have := fb_rng x3_10; omega) (by have := fb_rng v81; have := fb_rng x3_10; omega) (lv_sub hl83 [1, 2, 3, 4, 5, 0] rfl)
          · skip
            have tc85 := nu_eq c85
            have uc85 : (0 : Int32).toInt = 0 := rfl
            refine lv_aload_n hx hb dX6_layFlight_39 rfl (lv_at hl83 2 rfl) ?_
            refine tr_geti Z.1 Z.2.2.2.1 S78.1 S78.2 ha1 ta1 rfl rfl (fun _ h => List.mem_cons_of_mem _ (List.mem_append_left _ (List.mem_append_right _ h))) 5 (by decide) rfl (hts _ (List.mem_of_getElem? (i := 3) rfl)) dX6_layFlight_40 (fun v86 ev86 lv86 uv86 => ?_)
            obtain ⟨v87, ev87, tv87⟩ : ∃ v : Int32, Int32.ofInt (1) = v ∧ v.toInt = 1 := ⟨_, rfl, by decide +kernel⟩
            refine lv_iconst hx hb dX6_layFlight_43 ev87 ?_
            refine lv_icmp_ne (tgt := 51) hx hb dX6_layFlight_44 (by decide) (fun c88 => ?_) (fun c88 => ?_)
            · skip
              have tc88 := nu_ne c88
              exact J51 v81 E_10 H79 k80 l82 S78 F_10 (by have := fb_rng v81; have := fb_rng x3_10; omega) (by have := fb_rng v81; have := fb_rng x3_10; omega) (by have := fb_rng v81; have := fb_rng x3_10; omega) (by have := fb_rng v81; have := fb_rng x3_10; omega) (by have := fb_rng v81; have := fb_rng x3_10; omega) (lv_sub hl83 [1, 2, 3, 4, 5, 0] rfl)
            · skip
              have tc88 := nu_eq c88
              obtain ⟨v89, ev89, tv89⟩ : ∃ v : Int32, Int32.ofInt (1) = v ∧ v.toInt = 1 := ⟨_, rfl, by decide +kernel⟩
              refine lv_iconst hx hb dX6_layFlight_47 ev89 ?_
              refine lv_goto (tgt := 52) hx hb dX6_layFlight_48 (by decide) ?_
              exact J52 v81 v89 E_10 H79 k80 l82 S78 F_10 (by have := fb_rng v81; have := fb_rng x3_10; omega) (by have := fb_rng v81; have := fb_rng x3_10; omega) (by have := fb_rng v81; have := fb_rng x3_10; omega) (by have := fb_rng v81; have := fb_rng x3_10; omega) (by have := fb_rng v81; have := fb_rng x3_10; omega) (by have := fb_rng v81; have := fb_rng x3_10; omega) (by have := fb_rng v81; have := fb_rng x3_10; omega) (lv_sub hl83 [1, 2, 3, 4, 5, 0] rfl)
  refine lv_aload_n hx hb dX6_layFlight_0 rfl (lv_at hl 1 rfl) ?_
  refine tr_getr Z.1 Z.2.2.2.1 S0.1 S0.2 ha1 ta1 rfl rfl (fun _ h => List.mem_cons_of_mem _ (List.mem_append_left _ (List.mem_append_right _ h))) 8 (by decide) rfl (hts _ (List.mem_of_getElem? (i := 1) rfl)) dX6_layFlight_1 (fun q90 eq90 hq90 tq90 => ?_)
  have tq90 : τ q90 = (20, 2) := tq90
  refine lv_iload_n hx hb dX6_layFlight_4 rfl (lv_at hl 2 rfl) ?_
  refine tr_iald Z.1 Z.2.2.2.1 S0.1 S0.2 hq90 tq90 rfl (by omega) (by omega) dX6_layFlight_5 (fun v91 ev91 lv91 uv91 => ?_)
  refine lv_istore_n (lv' := [(3, .int v91), (0, .ref a0), (1, .ref a1), (2, .int a2)]) hx hb dX6_layFlight_6 rfl hl (by decide) rfl (fun l92 hl93 => ?_)
  obtain ⟨v94, ev94, tv94⟩ : ∃ v : Int32, Int32.ofInt (0) = v ∧ v.toInt = 0 := ⟨_, rfl, by decide +kernel⟩
  refine lv_iconst hx hb dX6_layFlight_7 ev94 ?_
  refine lv_istore (lv' := [(4, .int v94), (3, .int v91), (0, .ref a0), (1, .ref a1), (2, .int a2)]) hx hb dX6_layFlight_8 hl93 (by decide) rfl (fun l95 hl96 => ?_)
  exact J10 _ v91 v94 E s.heap [] l95 S0 F0_ (by have := fb_rng v91; omega) (by have := fb_rng v91; omega) (by have := fb_rng v91; omega) (Nat.lt_succ_self _) (lv_sub hl96 [2, 3, 4, 1, 0] rfl)

set_option maxRecDepth 20000 in
theorem ggX6_lay_X4_flightTreads : GoodIn wsX6_lay wsX4_flightTreads := goodIn_r _ [11, 12, 13, 67, 68, 69, 70, 71, 72, 73, 74, 75, 76, 77, 78, 79, 80, 81, 82] (by decide +kernel) (by decide +kernel)
set_option maxRecDepth 20000 in
theorem gX6_lay_X4_flightTreads : GoodIn wsX6_lay (wsV RX6 35 RX4 yX4_flightTreads wsX4_flightTreads) := goodIn_app (goodIn_of _ (by decide +kernel)) ggX6_lay_X4_flightTreads
set_option maxRecDepth 20000 in
theorem ggX6_lay_X4_turnTreads : GoodIn wsX6_lay wsX4_turnTreads := goodIn_r _ [17, 12, 18, 67, 68, 69, 70, 71, 72, 73, 74, 75, 76, 77, 78, 79, 80, 81, 82] (by decide +kernel) (by decide +kernel)
set_option maxRecDepth 20000 in
theorem gX6_lay_X4_turnTreads : GoodIn wsX6_lay (wsV RX6 41 RX4 yX4_turnTreads wsX4_turnTreads) := goodIn_app (goodIn_of _ (by decide +kernel)) ggX6_lay_X4_turnTreads
set_option maxRecDepth 20000 in
theorem ggX6_lay_X6_layFlight : GoodIn wsX6_lay wsX6_layFlight := goodIn_r _ [23, 24, 25, 26, 27, 28, 29, 30, 31, 32, 22, 33, 1, 6, 34, 35, 36, 37, 38, 4, 2, 3, 39, 67, 68, 69, 70, 71, 72, 73, 74, 75, 76, 77, 78, 79, 80, 81, 82, 62, 63, 64, 65, 66] (by decide +kernel) (by decide +kernel)
set_option maxRecDepth 20000 in
theorem gX6_lay_X6_layFlight : GoodIn wsX6_lay (wsV RX6 47 RX6 yX6_layFlight wsX6_layFlight) := goodIn_app (goodIn_of _ (by decide +kernel)) ggX6_lay_X6_layFlight
set_option maxRecDepth 20000 in
theorem ggX6_lay_X6_layTurn : GoodIn wsX6_lay wsX6_layTurn := goodIn_r _ [43, 44, 39, 45, 46, 30, 31, 32, 22, 33, 1, 6, 27, 28, 29, 34, 35, 36, 37, 38, 4, 2, 3, 67, 68, 69, 70, 71, 72, 73, 74, 75, 76, 77, 78, 79, 80, 81, 82, 62, 63, 64, 65, 66] (by decide +kernel) (by decide +kernel)
set_option maxRecDepth 20000 in
theorem gX6_lay_X6_layTurn : GoodIn wsX6_lay (wsV RX6 51 RX6 yX6_layTurn wsX6_layTurn) := goodIn_app (goodIn_of _ (by decide +kernel)) ggX6_lay_X6_layTurn
set_option maxRecDepth 20000 in
theorem ggX6_lay_X6_head : GoodIn wsX6_lay wsX6_head := goodIn_r _ [50, 6, 51, 52, 53, 54, 55, 56, 57, 58, 59, 60, 61, 62, 63, 64, 65, 66, 67, 68, 69, 70, 71, 72, 73, 74, 75, 76, 77, 78, 79, 80, 81, 82] (by decide +kernel) (by decide +kernel)
set_option maxRecDepth 20000 in
theorem gX6_lay_X6_head : GoodIn wsX6_lay (wsV RX6 54 RX6 yX6_head wsX6_head) := goodIn_app (goodIn_of _ (by decide +kernel)) ggX6_lay_X6_head
theorem dX6_lay_0 : decode cX6_lay 0 = .ok (.aload_n 0, 1) := by decide +kernel
theorem dX6_lay_1 : decode cX6_lay 1 = .ok (.iconst 0, 1) := by decide +kernel
theorem dX6_lay_2 : decode cX6_lay 2 = .ok (.putfield 16, 3) := by decide +kernel
theorem dX6_lay_5 : decode cX6_lay 5 = .ok (.aload_n 0, 1) := by decide +kernel
theorem dX6_lay_6 : decode cX6_lay 6 = .ok (.iconst 0, 1) := by decide +kernel
theorem dX6_lay_7 : decode cX6_lay 7 = .ok (.putfield 23, 3) := by decide +kernel
theorem dX6_lay_10 : decode cX6_lay 10 = .ok (.aload_n 0, 1) := by decide +kernel
theorem dX6_lay_11 : decode cX6_lay 11 = .ok (.iconst 0, 1) := by decide +kernel
theorem dX6_lay_12 : decode cX6_lay 12 = .ok (.putfield 26, 3) := by decide +kernel
theorem dX6_lay_15 : decode cX6_lay 15 = .ok (.aload_n 0, 1) := by decide +kernel
theorem dX6_lay_16 : decode cX6_lay 16 = .ok (.aload_n 1, 1) := by decide +kernel
theorem dX6_lay_17 : decode cX6_lay 17 = .ok (.invokevirtual 35, 3) := by decide +kernel
theorem dX6_lay_20 : decode cX6_lay 20 = .ok (.aload_n 1, 1) := by decide +kernel
theorem dX6_lay_21 : decode cX6_lay 21 = .ok (.invokevirtual 41, 3) := by decide +kernel
theorem dX6_lay_24 : decode cX6_lay 24 = .ok (.iadd, 1) := by decide +kernel
theorem dX6_lay_25 : decode cX6_lay 25 = .ok (.iconst 1, 1) := by decide +kernel
theorem dX6_lay_26 : decode cX6_lay 26 = .ok (.iadd, 1) := by decide +kernel
theorem dX6_lay_27 : decode cX6_lay 27 = .ok (.putfield 20, 3) := by decide +kernel
theorem dX6_lay_30 : decode cX6_lay 30 = .ok (.iconst 0, 1) := by decide +kernel
theorem dX6_lay_31 : decode cX6_lay 31 = .ok (.istore_n 2, 1) := by decide +kernel
theorem dX6_lay_32 : decode cX6_lay 32 = .ok (.iload_n 2, 1) := by decide +kernel
theorem dX6_lay_33 : decode cX6_lay 33 = .ok (.aload_n 1, 1) := by decide +kernel
theorem dX6_lay_34 : decode cX6_lay 34 = .ok (.getfield 44, 3) := by decide +kernel
theorem dX6_lay_37 : decode cX6_lay 37 = .ok (.if_icmp .ge 31, 3) := by decide +kernel
theorem dX6_lay_40 : decode cX6_lay 40 = .ok (.aload_n 0, 1) := by decide +kernel
theorem dX6_lay_41 : decode cX6_lay 41 = .ok (.aload_n 1, 1) := by decide +kernel
theorem dX6_lay_42 : decode cX6_lay 42 = .ok (.iload_n 2, 1) := by decide +kernel
theorem dX6_lay_43 : decode cX6_lay 43 = .ok (.invokevirtual 47, 3) := by decide +kernel
theorem dX6_lay_46 : decode cX6_lay 46 = .ok (.iload_n 2, 1) := by decide +kernel
theorem dX6_lay_47 : decode cX6_lay 47 = .ok (.aload_n 1, 1) := by decide +kernel
theorem dX6_lay_48 : decode cX6_lay 48 = .ok (.getfield 44, 3) := by decide +kernel
theorem dX6_lay_51 : decode cX6_lay 51 = .ok (.iconst 1, 1) := by decide +kernel
theorem dX6_lay_52 : decode cX6_lay 52 = .ok (.isub, 1) := by decide +kernel
theorem dX6_lay_53 : decode cX6_lay 53 = .ok (.if_icmp .ge 9, 3) := by decide +kernel
theorem dX6_lay_56 : decode cX6_lay 56 = .ok (.aload_n 0, 1) := by decide +kernel
theorem dX6_lay_57 : decode cX6_lay 57 = .ok (.aload_n 1, 1) := by decide +kernel
theorem dX6_lay_58 : decode cX6_lay 58 = .ok (.iload_n 2, 1) := by decide +kernel
theorem dX6_lay_59 : decode cX6_lay 59 = .ok (.invokevirtual 51, 3) := by decide +kernel
theorem dX6_lay_62 : decode cX6_lay 62 = .ok (.iinc 2 1, 3) := by decide +kernel
theorem dX6_lay_65 : decode cX6_lay 65 = .ok (.goto (-33), 3) := by decide +kernel
theorem dX6_lay_68 : decode cX6_lay 68 = .ok (.iconst 0, 1) := by decide +kernel
theorem dX6_lay_69 : decode cX6_lay 69 = .ok (.istore_n 2, 1) := by decide +kernel
theorem dX6_lay_70 : decode cX6_lay 70 = .ok (.iload_n 2, 1) := by decide +kernel
theorem dX6_lay_71 : decode cX6_lay 71 = .ok (.aload_n 0, 1) := by decide +kernel
theorem dX6_lay_72 : decode cX6_lay 72 = .ok (.getfield 16, 3) := by decide +kernel
theorem dX6_lay_75 : decode cX6_lay 75 = .ok (.if_icmp .ge 24, 3) := by decide +kernel
theorem dX6_lay_78 : decode cX6_lay 78 = .ok (.aload_n 0, 1) := by decide +kernel
theorem dX6_lay_79 : decode cX6_lay 79 = .ok (.getfield 13, 3) := by decide +kernel
theorem dX6_lay_82 : decode cX6_lay 82 = .ok (.bipush 6, 2) := by decide +kernel
theorem dX6_lay_84 : decode cX6_lay 84 = .ok (.aaload, 1) := by decide +kernel
theorem dX6_lay_85 : decode cX6_lay 85 = .ok (.iload_n 2, 1) := by decide +kernel
theorem dX6_lay_86 : decode cX6_lay 86 = .ok (.aload_n 0, 1) := by decide +kernel
theorem dX6_lay_87 : decode cX6_lay 87 = .ok (.aload_n 1, 1) := by decide +kernel
theorem dX6_lay_88 : decode cX6_lay 88 = .ok (.iload_n 2, 1) := by decide +kernel
theorem dX6_lay_89 : decode cX6_lay 89 = .ok (.invokevirtual 54, 3) := by decide +kernel
theorem dX6_lay_92 : decode cX6_lay 92 = .ok (.iastore, 1) := by decide +kernel
theorem dX6_lay_93 : decode cX6_lay 93 = .ok (.iinc 2 1, 3) := by decide +kernel
theorem dX6_lay_96 : decode cX6_lay 96 = .ok (.goto (-26), 3) := by decide +kernel
theorem dX6_lay_99 : decode cX6_lay 99 = .ok (.return_, 1) := by decide +kernel
set_option maxHeartbeats 4000000 in
set_option maxRecDepth 100000 in
theorem k_X6_lay_v0 (l : Launch) (D : va_G) (cy : Nat → ClassId) {L : List Nat} {τ : Nat → Ro} {E : Ec} (hI : Inv TB cy L τ E) {a0 : Nat} (ha0 : a0 ∈ L) (ta0 : τ a0 = (5, 0)) {a1 : Nat} (ha1 : a1 ∈ L) (ta1 : τ a1 = (1, 0)) : CtV l yX6_lay wsX6_lay { frames := 3, cells := 0, slots := 0, locals := 72 } D TB cy L τ E [.ref a0, .ref a1] (inW [(5, 0), (100, 0), (101, 0), (102, 0), (103, 0), (104, 0), (105, 0), (106, 0), (107, 0), (108, 0), (109, 0), (110, 0), (111, 0), (112, 0)]) (fun E' => True) := by
  intro sz
  refine sta (cc := cX6_lay) (maxL := 3) hI (by decide) rfl (Nat.le_of_ble_eq_true rfl) (fun p e s m args below meth c ls hsz Z S0 hl => ?_)
  have hx := Z.1.1
  have hb := Z.1.2.1
  have hts := Z.1.2.2.2.2
  have F0_ : Fr L τ (inW [(5, 0), (100, 0), (101, 0), (102, 0), (103, 0), (104, 0), (105, 0), (106, 0), (107, 0), (108, 0), (109, 0), (110, 0), (111, 0), (112, 0)]) E E := Fr.refl
  have hl : lv_has ls 3 [(0, .ref a0), (1, .ref a1)] := hl
  generalize hQ : MQ below _ args s 0 0 _ = QQ
  have J70 : ∀ (n : Nat) (x2_70 : Int32) (E_70 : Ec) (H_70 : Heap) (k_70 : List Loc) (l_70 : Array Slot), Now D TB cy (va_A (va_pl L E) sz) s L τ E_70 H_70 k_70 → Fr L τ (inW [(5, 0), (100, 0), (101, 0), (102, 0), (103, 0), (104, 0), (105, 0), (106, 0), (107, 0), (108, 0), (109, 0), (110, 0), (111, 0), (112, 0)]) E E_70 → (0 ≤ x2_70.toInt) → (x2_70.toInt ≤ 66) → (66 - x2_70.toInt).toNat < n → lv_has l_70 3 [(0, .ref a0), (1, .ref a1), (2, .int x2_70)] → W p l e { frames := 3, cells := 0, slots := 0, locals := 72 } s m args below meth c H_70 k_70 0 0 QQ (F0 m 70 l_70 []) := by
    intro n
    induction n with
    | zero => intro x2_70 E_70 H_70 k_70 l_70 S_70 F_70 z1 z2 hm hl_70; exact absurd hm (Nat.not_lt_zero _)
    | succ n ih =>
      intro x2_70 E_70 H_70 k_70 l_70 S_70 F_70 z1 z2 hm hl_70
      have ih_70 := ih
      refine lv_iload_n hx hb dX6_lay_70 rfl (lv_at hl_70 2 rfl) ?_
      refine lv_aload_n hx hb dX6_lay_71 rfl (lv_at hl_70 0 rfl) ?_
      refine tr_geti Z.1 Z.2.2.2.1 S_70.1 S_70.2 ha0 ta0 rfl rfl (fun _ h => List.mem_cons_of_mem _ (List.mem_append_left _ (List.mem_append_right _ h))) 1 (by decide) rfl (hts _ (List.mem_of_getElem? (i := 1) rfl)) dX6_lay_72 (fun v3 ev3 lv3 uv3 => ?_)
      refine lv_icmp_ge (tgt := 99) hx hb dX6_lay_75 (by decide) (fun c4 => ?_) (fun c4 => ?_)
      · skip
        have tc4 := nu_le c4
        rw [← hQ]
        exact en_v Z S_70 F_70 trivial dX6_lay_99
      · skip
        have tc4 := nu_nle c4
        refine lv_aload_n hx hb dX6_lay_78 rfl (lv_at hl_70 0 rfl) ?_
        refine tr_getr Z.1 Z.2.2.2.1 S_70.1 S_70.2 ha0 ta0 rfl rfl (fun _ h => List.mem_cons_of_mem _ (List.mem_append_left _ (List.mem_append_right _ h))) 0 (by decide) rfl (hts _ (List.mem_of_getElem? (i := 6) rfl)) dX6_lay_79 (fun q5 eq5 hq5 tq5 => ?_)
        have tq5 : τ q5 = (30, 0) := tq5
        obtain ⟨v6, ev6, tv6⟩ : ∃ v : Int32, (Int8.ofInt (6)).toInt32 = v ∧ v.toInt = 6 := ⟨_, rfl, by decide +kernel⟩
        refine lv_bipush hx hb dX6_lay_82 ev6 ?_
        refine tr_aaldr (ra := 106) (rb := 0) Z.1 Z.2.2.2.1 S_70.1 S_70.2 hq5 tq5 rfl (row_at (w := 6) (by omega)) rfl rfl (by omega) (by omega) dX6_lay_84 (fun q7 eq7 hq7 tq7 => ?_)
        have tq7 : τ q7 = (106, 0) := tq7
        refine lv_iload_n hx hb dX6_lay_85 rfl (lv_at hl_70 2 rfl) ?_
        refine lv_aload_n hx hb dX6_lay_86 rfl (lv_at hl_70 0 rfl) ?_
        refine lv_aload_n hx hb dX6_lay_87 rfl (lv_at hl_70 1 rfl) ?_
        refine lv_iload_n hx hb dX6_lay_88 rfl (lv_at hl_70 2 rfl) ?_
        refine tc_vi Z.1 Z.2.2.2.1 Z.2.2.2.2.1 Z.2.2.2.2.2 S_70.1 S_70.2 ha0 ta0 rfl rfl (k_X6_head_v0 l D cy S_70.2 ha0 ta0 ha1 ta1 x2_70 (by omega) (by omega)) (cwV 2 hts gX6_lay_X6_head rfl rfl rfl (by decide +kernel) ⟨Nat.le_of_ble_eq_true rfl, Nat.le_of_ble_eq_true rfl⟩) rfl hl_70.1 rfl (Nat.le_of_ble_eq_true rfl) dX6_lay_89 ⟨Nat.zero_le _, Nat.zero_le _⟩ (fun v11 E8 H9 k10 W8 I8 G8 p8 => ?_)
        have q8 := p8
        have q8 := q8.symm
        subst q8
        have S8 : Now D TB cy (va_A (va_pl L E) sz) s L τ E_70 H9 k10 := ⟨W8, I8⟩
        refine tr_iast Z.1 Z.2.2.2.1 S8.1 S8.2 hq7 tq7 rfl (by omega) (by omega) (by have := fb_rng v11; omega) (by have := fb_rng v11; omega) dX6_lay_92 (fun E12 H13 k14 W12 I12 P12 => ?_)
        have S12 : Now D TB cy (va_A (va_pl L E) sz) s L τ E12 H13 k14 := ⟨W12, I12⟩
        have F12 : Fr L τ (inW [(5, 0), (100, 0), (101, 0), (102, 0), (103, 0), (104, 0), (105, 0), (106, 0), (107, 0), (108, 0), (109, 0), (110, 0), (111, 0), (112, 0)]) E E12 := Fr.set F_70 P12 tq7 rfl
        obtain ⟨v15, ev15⟩ : ∃ y : Int32, x2_70 + Int32.ofInt (1) = y := ⟨_, rfl⟩
        have tv15 : v15.toInt = x2_70.toInt + (1) := by rw [← ev15]; exact (fb_addI (by rw [show (Int32.ofInt (1)).toInt = 1 from by decide +kernel]; omega) (by rw [show (Int32.ofInt (1)).toInt = 1 from by decide +kernel]; omega)).trans (by rw [show (Int32.ofInt (1)).toInt = 1 from by decide +kernel])
        refine lv_iinc (v := v15) (lv' := [(2, .int v15), (0, .ref a0), (1, .ref a1)]) hx hb dX6_lay_93 hl_70 (k := 2) rfl ev15 (by decide) rfl (fun l16 hl17 => ?_)
        refine lv_goto (tgt := 70) hx hb dX6_lay_96 (by decide) ?_
        exact ih_70 v15 E12 H13 k14 l16 S12 F12 (by omega) (by omega) (by omega) (lv_sub hl17 [1, 2, 0] rfl)
  have J32 : ∀ (n : Nat) (x2_32 : Int32) (E_32 : Ec) (H_32 : Heap) (k_32 : List Loc) (l_32 : Array Slot), Now D TB cy (va_A (va_pl L E) sz) s L τ E_32 H_32 k_32 → Fr L τ (inW [(5, 0), (100, 0), (101, 0), (102, 0), (103, 0), (104, 0), (105, 0), (106, 0), (107, 0), (108, 0), (109, 0), (110, 0), (111, 0), (112, 0)]) E E_32 → (0 ≤ x2_32.toInt) → (x2_32.toInt ≤ 3) → (3 - x2_32.toInt).toNat < n → lv_has l_32 3 [(0, .ref a0), (1, .ref a1), (2, .int x2_32)] → W p l e { frames := 3, cells := 0, slots := 0, locals := 72 } s m args below meth c H_32 k_32 0 0 QQ (F0 m 32 l_32 []) := by
    intro n
    induction n with
    | zero => intro x2_32 E_32 H_32 k_32 l_32 S_32 F_32 z18 z19 hm hl_32; exact absurd hm (Nat.not_lt_zero _)
    | succ n ih =>
      intro x2_32 E_32 H_32 k_32 l_32 S_32 F_32 z18 z19 hm hl_32
      have ih_32 := ih
      have J62 : ∀  (E_62 : Ec) (H_62 : Heap) (k_62 : List Loc) (l_62 : Array Slot), Now D TB cy (va_A (va_pl L E) sz) s L τ E_62 H_62 k_62 → Fr L τ (inW [(5, 0), (100, 0), (101, 0), (102, 0), (103, 0), (104, 0), (105, 0), (106, 0), (107, 0), (108, 0), (109, 0), (110, 0), (111, 0), (112, 0)]) E E_62 → (0 ≤ x2_32.toInt) → (x2_32.toInt ≤ 2) → lv_has l_62 3 [(0, .ref a0), (1, .ref a1), (2, .int x2_32)] → W p l e { frames := 3, cells := 0, slots := 0, locals := 72 } s m args below meth c H_62 k_62 0 0 QQ (F0 m 62 l_62 []) := by
        intro  E_62 H_62 k_62 l_62 S_62 F_62 z20 z21 hl_62
        obtain ⟨v22, ev22⟩ : ∃ y : Int32, x2_32 + Int32.ofInt (1) = y := ⟨_, rfl⟩
        have tv22 : v22.toInt = x2_32.toInt + (1) := by rw [← ev22]; exact (fb_addI (by rw [show (Int32.ofInt (1)).toInt = 1 from by decide +kernel]; omega) (by rw [show (Int32.ofInt (1)).toInt = 1 from by decide +kernel]; omega)).trans (by rw [show (Int32.ofInt (1)).toInt = 1 from by decide +kernel])
        refine lv_iinc (v := v22) (lv' := [(2, .int v22), (0, .ref a0), (1, .ref a1)]) hx hb dX6_lay_62 hl_62 (k := 2) rfl ev22 (by decide) rfl (fun l23 hl24 => ?_)
        refine lv_goto (tgt := 32) hx hb dX6_lay_65 (by decide) ?_
        exact ih_32 v22 E_62 H_62 k_62 l23 S_62 F_62 (by omega) (by omega) (by omega) (lv_sub hl24 [1, 2, 0] rfl)
      refine lv_iload_n hx hb dX6_lay_32 rfl (lv_at hl_32 2 rfl) ?_
      refine lv_aload_n hx hb dX6_lay_33 rfl (lv_at hl_32 1 rfl) ?_
      refine tr_geti Z.1 Z.2.2.2.1 S_32.1 S_32.2 ha1 ta1 rfl rfl (fun _ h => List.mem_cons_of_mem _ (List.mem_append_right _ h)) 4 (by decide) rfl (hts _ (List.mem_of_getElem? (i := 5) rfl)) dX6_lay_34 (fun v25 ev25 lv25 uv25 => ?_)
      refine lv_icmp_ge (tgt := 68) hx hb dX6_lay_37 (by decide) (fun c26 => ?_) (fun c26 => ?_)
      · skip
        have tc26 := nu_le c26
        obtain ⟨v27, ev27, tv27⟩ : ∃ v : Int32, Int32.ofInt (0) = v ∧ v.toInt = 0 := ⟨_, rfl, by decide +kernel⟩
        refine lv_iconst hx hb dX6_lay_68 ev27 ?_
        refine lv_istore_n (lv' := [(2, .int v27), (0, .ref a0), (1, .ref a1)]) hx hb dX6_lay_69 rfl hl_32 (by decide) rfl (fun l28 hl29 => ?_)
        exact J70 _ v27 E_32 H_32 k_32 l28 S_32 F_32 (by omega) (by omega) (Nat.lt_succ_self _) (lv_sub hl29 [1, 2, 0] rfl)
      · skip
        have tc26 := nu_nle c26
        refine lv_aload_n hx hb dX6_lay_40 rfl (lv_at hl_32 0 rfl) ?_
        refine lv_aload_n hx hb dX6_lay_41 rfl (lv_at hl_32 1 rfl) ?_
        refine lv_iload_n hx hb dX6_lay_42 rfl (lv_at hl_32 2 rfl) ?_
        refine tc_vv Z.1 Z.2.2.2.1 Z.2.2.2.2.1 Z.2.2.2.2.2 S_32.1 S_32.2 ha0 ta0 rfl rfl (k_X6_layFlight_v0 l D cy S_32.2 ha0 ta0 ha1 ta1 x2_32 (by omega) (by omega)) (cwV 2 hts gX6_lay_X6_layFlight rfl rfl rfl (by decide +kernel) ⟨Nat.le_of_ble_eq_true rfl, Nat.le_of_ble_eq_true rfl⟩) rfl hl_32.1 rfl (Nat.le_of_ble_eq_true rfl) dX6_lay_43 ⟨Nat.zero_le _, Nat.zero_le _⟩ (fun E30 H31 k32 W30 I30 G30 p30 => ?_)
        have S30 : Now D TB cy (va_A (va_pl L E) sz) s L τ E30 H31 k32 := ⟨W30, I30⟩
        have F30 : Fr L τ (inW [(5, 0), (100, 0), (101, 0), (102, 0), (103, 0), (104, 0), (105, 0), (106, 0), (107, 0), (108, 0), (109, 0), (110, 0), (111, 0), (112, 0)]) E E30 := F_32.trans (G30.mono (inW_mono (by decide)))
        refine lv_iload_n hx hb dX6_lay_46 rfl (lv_at hl_32 2 rfl) ?_
        refine lv_aload_n hx hb dX6_lay_47 rfl (lv_at hl_32 1 rfl) ?_
        refine tr_geti Z.1 Z.2.2.2.1 S30.1 S30.2 ha1 ta1 rfl rfl (fun _ h => List.mem_cons_of_mem _ (List.mem_append_right _ h)) 4 (by decide) rfl (hts _ (List.mem_of_getElem? (i := 5) rfl)) dX6_lay_48 (fun v34 ev34 lv34 uv34 => ?_)
        have wv34 : v34 = v25 := ev34.symm.trans ((fi_fr G30 ha1 (by rw [ta1]; rfl)).trans ev25)
        have xv34 : v34.toInt = v25.toInt := by rw [wv34]
        obtain ⟨v35, ev35, tv35⟩ : ∃ v : Int32, Int32.ofInt (1) = v ∧ v.toInt = 1 := ⟨_, rfl, by decide +kernel⟩
        refine lv_iconst hx hb dX6_lay_51 ev35 ?_
        refine lv_isub hx hb dX6_lay_52 ?_
        refine lv_topi (fun v36 ev36 => ?_)
        have tv36 := nu_sub ev36 (by omega) (by omega)
        refine lv_icmp_ge (tgt := 62) hx hb dX6_lay_53 (by decide) (fun c37 => ?_) (fun c37 => ?_)
        · skip
          have tc37 := nu_le c37
          exact J62 E30 H31 k32 l_32 S30 F30 (by omega) (by omega) (lv_sub hl_32 [0, 1, 2] rfl)
        · skip
          have tc37 := nu_nle c37
          refine lv_aload_n hx hb dX6_lay_56 rfl (lv_at hl_32 0 rfl) ?_
          refine lv_aload_n hx hb dX6_lay_57 rfl (lv_at hl_32 1 rfl) ?_
          refine lv_iload_n hx hb dX6_lay_58 rfl (lv_at hl_32 2 rfl) ?_
          refine tc_vv Z.1 Z.2.2.2.1 Z.2.2.2.2.1 Z.2.2.2.2.2 S30.1 S30.2 ha0 ta0 rfl rfl (k_X6_layTurn_v0 l D cy S30.2 ha0 ta0 ha1 ta1 x2_32 (by omega) (by omega)) (cwV 2 hts gX6_lay_X6_layTurn rfl rfl rfl (by decide +kernel) ⟨Nat.le_of_ble_eq_true rfl, Nat.le_of_ble_eq_true rfl⟩) rfl hl_32.1 rfl (Nat.le_of_ble_eq_true rfl) dX6_lay_59 ⟨Nat.zero_le _, Nat.zero_le _⟩ (fun E38 H39 k40 W38 I38 G38 p38 => ?_)
          have S38 : Now D TB cy (va_A (va_pl L E) sz) s L τ E38 H39 k40 := ⟨W38, I38⟩
          have F38 : Fr L τ (inW [(5, 0), (100, 0), (101, 0), (102, 0), (103, 0), (104, 0), (105, 0), (106, 0), (107, 0), (108, 0), (109, 0), (110, 0), (111, 0), (112, 0)]) E E38 := F30.trans (G38.mono (inW_mono (by decide)))
          exact J62 E38 H39 k40 l_32 S38 F38 (by omega) (by omega) (lv_sub hl_32 [0, 1, 2] rfl)
  refine lv_aload_n hx hb dX6_lay_0 rfl (lv_at hl 0 rfl) ?_
  obtain ⟨v42, ev42, tv42⟩ : ∃ v : Int32, Int32.ofInt (0) = v ∧ v.toInt = 0 := ⟨_, rfl, by decide +kernel⟩
  refine lv_iconst hx hb dX6_lay_1 ev42 ?_
  refine tr_puti Z.1 Z.2.2.2.1 S0.1 S0.2 ha0 ta0 rfl rfl (fun _ h => List.mem_cons_of_mem _ (List.mem_append_left _ (List.mem_append_right _ h))) tyX6_ok nmX6 1 (by decide) rfl rfl rfl (hts _ (List.mem_of_getElem? (i := 1) rfl)) dX6_lay_2 (by omega) (by omega) (fun E43 H44 k45 W43 I43 P43 => ?_)
  have S43 : Now D TB cy (va_A (va_pl L E) sz) s L τ E43 H44 k45 := ⟨W43, I43⟩
  have F43 : Fr L τ (inW [(5, 0), (100, 0), (101, 0), (102, 0), (103, 0), (104, 0), (105, 0), (106, 0), (107, 0), (108, 0), (109, 0), (110, 0), (111, 0), (112, 0)]) E E43 := Fr.put F0_ P43 ta0 rfl
  refine lv_aload_n hx hb dX6_lay_5 rfl (lv_at hl 0 rfl) ?_
  obtain ⟨v46, ev46, tv46⟩ : ∃ v : Int32, Int32.ofInt (0) = v ∧ v.toInt = 0 := ⟨_, rfl, by decide +kernel⟩
  refine lv_iconst hx hb dX6_lay_6 ev46 ?_
  refine tr_puti Z.1 Z.2.2.2.1 S43.1 S43.2 ha0 ta0 rfl rfl (fun _ h => List.mem_cons_of_mem _ (List.mem_append_left _ (List.mem_append_right _ h))) tyX6_ok nmX6 3 (by decide) rfl rfl rfl (hts _ (List.mem_of_getElem? (i := 2) rfl)) dX6_lay_7 (by have := fb_rng v46; omega) (by have := fb_rng v46; omega) (fun E47 H48 k49 W47 I47 P47 => ?_)
  have S47 : Now D TB cy (va_A (va_pl L E) sz) s L τ E47 H48 k49 := ⟨W47, I47⟩
  have F47 : Fr L τ (inW [(5, 0), (100, 0), (101, 0), (102, 0), (103, 0), (104, 0), (105, 0), (106, 0), (107, 0), (108, 0), (109, 0), (110, 0), (111, 0), (112, 0)]) E E47 := Fr.put F43 P47 ta0 rfl
  refine lv_aload_n hx hb dX6_lay_10 rfl (lv_at hl 0 rfl) ?_
  obtain ⟨v50, ev50, tv50⟩ : ∃ v : Int32, Int32.ofInt (0) = v ∧ v.toInt = 0 := ⟨_, rfl, by decide +kernel⟩
  refine lv_iconst hx hb dX6_lay_11 ev50 ?_
  refine tr_puti Z.1 Z.2.2.2.1 S47.1 S47.2 ha0 ta0 rfl rfl (fun _ h => List.mem_cons_of_mem _ (List.mem_append_left _ (List.mem_append_right _ h))) tyX6_ok nmX6 4 (by decide) rfl rfl rfl (hts _ (List.mem_of_getElem? (i := 3) rfl)) dX6_lay_12 (by have := fb_rng v50; omega) (by have := fb_rng v50; omega) (fun E51 H52 k53 W51 I51 P51 => ?_)
  have S51 : Now D TB cy (va_A (va_pl L E) sz) s L τ E51 H52 k53 := ⟨W51, I51⟩
  have F51 : Fr L τ (inW [(5, 0), (100, 0), (101, 0), (102, 0), (103, 0), (104, 0), (105, 0), (106, 0), (107, 0), (108, 0), (109, 0), (110, 0), (111, 0), (112, 0)]) E E51 := Fr.put F47 P51 ta0 rfl
  refine lv_aload_n hx hb dX6_lay_15 rfl (lv_at hl 0 rfl) ?_
  refine lv_aload_n hx hb dX6_lay_16 rfl (lv_at hl 1 rfl) ?_
  refine tc_vi Z.1 Z.2.2.2.1 Z.2.2.2.2.1 Z.2.2.2.2.2 S51.1 S51.2 ha1 ta1 rfl rfl (k_X4_flightTreads_v0 l D cy S51.2 ha1 ta1) (cwV 0 hts gX6_lay_X4_flightTreads rfl rfl rfl (by decide +kernel) ⟨Nat.le_of_ble_eq_true rfl, Nat.le_of_ble_eq_true rfl⟩) rfl hl.1 rfl (Nat.le_of_ble_eq_true rfl) dX6_lay_17 ⟨Nat.zero_le _, Nat.zero_le _⟩ (fun v57 E54 H55 k56 W54 I54 G54 p54 => ?_)
  have q54 := p54
  have q54 := q54.symm
  subst q54
  have S54 : Now D TB cy (va_A (va_pl L E) sz) s L τ E51 H55 k56 := ⟨W54, I54⟩
  refine lv_aload_n hx hb dX6_lay_20 rfl (lv_at hl 1 rfl) ?_
  refine tc_vi Z.1 Z.2.2.2.1 Z.2.2.2.2.1 Z.2.2.2.2.2 S54.1 S54.2 ha1 ta1 rfl rfl (k_X4_turnTreads_v0 l D cy S54.2 ha1 ta1) (cwV 0 hts gX6_lay_X4_turnTreads rfl rfl rfl (by decide +kernel) ⟨Nat.le_of_ble_eq_true rfl, Nat.le_of_ble_eq_true rfl⟩) rfl hl.1 rfl (Nat.le_of_ble_eq_true rfl) dX6_lay_21 ⟨Nat.zero_le _, Nat.zero_le _⟩ (fun v61 E58 H59 k60 W58 I58 G58 p58 => ?_)
  have q58 := p58
  have q58 := q58.symm
  subst q58
  have S58 : Now D TB cy (va_A (va_pl L E) sz) s L τ E51 H59 k60 := ⟨W58, I58⟩
  refine lv_iadd hx hb dX6_lay_24 ?_
  refine lv_topi (fun v62 ev62 => ?_)
  obtain ⟨v63, ev63, tv63⟩ : ∃ v : Int32, Int32.ofInt (1) = v ∧ v.toInt = 1 := ⟨_, rfl, by decide +kernel⟩
  refine lv_iconst hx hb dX6_lay_25 ev63 ?_
  refine lv_iadd hx hb dX6_lay_26 ?_
  refine lv_topi (fun v64 ev64 => ?_)
  refine tr_puti Z.1 Z.2.2.2.1 S58.1 S58.2 ha0 ta0 rfl rfl (fun _ h => List.mem_cons_of_mem _ (List.mem_append_left _ (List.mem_append_right _ h))) tyX6_ok nmX6 2 (by decide) rfl rfl rfl (hts _ (List.mem_of_getElem? (i := 4) rfl)) dX6_lay_27 (by have := fb_rng v64; omega) (by have := fb_rng v64; omega) (fun E65 H66 k67 W65 I65 P65 => ?_)
  have S65 : Now D TB cy (va_A (va_pl L E) sz) s L τ E65 H66 k67 := ⟨W65, I65⟩
  have F65 : Fr L τ (inW [(5, 0), (100, 0), (101, 0), (102, 0), (103, 0), (104, 0), (105, 0), (106, 0), (107, 0), (108, 0), (109, 0), (110, 0), (111, 0), (112, 0)]) E E65 := Fr.put F51 P65 ta0 rfl
  obtain ⟨v68, ev68, tv68⟩ : ∃ v : Int32, Int32.ofInt (0) = v ∧ v.toInt = 0 := ⟨_, rfl, by decide +kernel⟩
  refine lv_iconst hx hb dX6_lay_30 ev68 ?_
  refine lv_istore_n (lv' := [(2, .int v68), (0, .ref a0), (1, .ref a1)]) hx hb dX6_lay_31 rfl hl (by decide) rfl (fun l69 hl70 => ?_)
  exact J32 _ v68 E65 H66 k67 l69 S65 F65 (by omega) (by omega) (Nat.lt_succ_self _) (lv_sub hl70 [1, 2, 0] rfl)

set_option maxHeartbeats 4000000 in
set_option maxRecDepth 100000 in
theorem k_X6_lay_v1 (l : Launch) (D : va_G) (cy : Nat → ClassId) {L : List Nat} {τ : Nat → Ro} {E : Ec} (hI : Inv TB cy L τ E) {a0 : Nat} (ha0 : a0 ∈ L) (ta0 : τ a0 = (5, 1)) {a1 : Nat} (ha1 : a1 ∈ L) (ta1 : τ a1 = (1, 2)) : CtV l yX6_lay wsX6_lay { frames := 3, cells := 0, slots := 0, locals := 72 } D TB cy L τ E [.ref a0, .ref a1] (inW [(5, 1), (100, 1), (101, 1), (102, 1), (103, 1), (104, 1), (105, 1), (106, 1), (107, 1), (108, 1), (109, 1), (110, 1), (111, 1), (112, 1)]) (fun E' => True) := by
  intro sz
  refine sta (cc := cX6_lay) (maxL := 3) hI (by decide) rfl (Nat.le_of_ble_eq_true rfl) (fun p e s m args below meth c ls hsz Z S0 hl => ?_)
  have hx := Z.1.1
  have hb := Z.1.2.1
  have hts := Z.1.2.2.2.2
  have F0_ : Fr L τ (inW [(5, 1), (100, 1), (101, 1), (102, 1), (103, 1), (104, 1), (105, 1), (106, 1), (107, 1), (108, 1), (109, 1), (110, 1), (111, 1), (112, 1)]) E E := Fr.refl
  have hl : lv_has ls 3 [(0, .ref a0), (1, .ref a1)] := hl
  generalize hQ : MQ below _ args s 0 0 _ = QQ
  have J70 : ∀ (n : Nat) (x2_70 : Int32) (E_70 : Ec) (H_70 : Heap) (k_70 : List Loc) (l_70 : Array Slot), Now D TB cy (va_A (va_pl L E) sz) s L τ E_70 H_70 k_70 → Fr L τ (inW [(5, 1), (100, 1), (101, 1), (102, 1), (103, 1), (104, 1), (105, 1), (106, 1), (107, 1), (108, 1), (109, 1), (110, 1), (111, 1), (112, 1)]) E E_70 → (0 ≤ x2_70.toInt) → (x2_70.toInt ≤ 66) → (66 - x2_70.toInt).toNat < n → lv_has l_70 3 [(0, .ref a0), (1, .ref a1), (2, .int x2_70)] → W p l e { frames := 3, cells := 0, slots := 0, locals := 72 } s m args below meth c H_70 k_70 0 0 QQ (F0 m 70 l_70 []) := by
    intro n
    induction n with
    | zero => intro x2_70 E_70 H_70 k_70 l_70 S_70 F_70 z1 z2 hm hl_70; exact absurd hm (Nat.not_lt_zero _)
    | succ n ih =>
      intro x2_70 E_70 H_70 k_70 l_70 S_70 F_70 z1 z2 hm hl_70
      have ih_70 := ih
      refine lv_iload_n hx hb dX6_lay_70 rfl (lv_at hl_70 2 rfl) ?_
      refine lv_aload_n hx hb dX6_lay_71 rfl (lv_at hl_70 0 rfl) ?_
      refine tr_geti Z.1 Z.2.2.2.1 S_70.1 S_70.2 ha0 ta0 rfl rfl (fun _ h => List.mem_cons_of_mem _ (List.mem_append_left _ (List.mem_append_right _ h))) 1 (by decide) rfl (hts _ (List.mem_of_getElem? (i := 1) rfl)) dX6_lay_72 (fun v3 ev3 lv3 uv3 => ?_)
      refine lv_icmp_ge (tgt := 99) hx hb dX6_lay_75 (by decide) (fun c4 => ?_) (fun c4 => ?_)
      · skip
        have tc4 := nu_le c4
        rw [← hQ]
        exact en_v Z S_70 F_70 trivial dX6_lay_99
      · skip
        have tc4 := nu_nle c4
        refine lv_aload_n hx hb dX6_lay_78 rfl (lv_at hl_70 0 rfl) ?_
        refine tr_getr Z.1 Z.2.2.2.1 S_70.1 S_70.2 ha0 ta0 rfl rfl (fun _ h => List.mem_cons_of_mem _ (List.mem_append_left _ (List.mem_append_right _ h))) 0 (by decide) rfl (hts _ (List.mem_of_getElem? (i := 6) rfl)) dX6_lay_79 (fun q5 eq5 hq5 tq5 => ?_)
        have tq5 : τ q5 = (30, 1) := tq5
        obtain ⟨v6, ev6, tv6⟩ : ∃ v : Int32, (Int8.ofInt (6)).toInt32 = v ∧ v.toInt = 6 := ⟨_, rfl, by decide +kernel⟩
        refine lv_bipush hx hb dX6_lay_82 ev6 ?_
        refine tr_aaldr (ra := 106) (rb := 1) Z.1 Z.2.2.2.1 S_70.1 S_70.2 hq5 tq5 rfl (row_at (w := 6) (by omega)) rfl rfl (by omega) (by omega) dX6_lay_84 (fun q7 eq7 hq7 tq7 => ?_)
        have tq7 : τ q7 = (106, 1) := tq7
        refine lv_iload_n hx hb dX6_lay_85 rfl (lv_at hl_70 2 rfl) ?_
        refine lv_aload_n hx hb dX6_lay_86 rfl (lv_at hl_70 0 rfl) ?_
        refine lv_aload_n hx hb dX6_lay_87 rfl (lv_at hl_70 1 rfl) ?_
        refine lv_iload_n hx hb dX6_lay_88 rfl (lv_at hl_70 2 rfl) ?_
        refine tc_vi Z.1 Z.2.2.2.1 Z.2.2.2.2.1 Z.2.2.2.2.2 S_70.1 S_70.2 ha0 ta0 rfl rfl (k_X6_head_v1 l D cy S_70.2 ha0 ta0 ha1 ta1 x2_70 (by omega) (by omega)) (cwV 2 hts gX6_lay_X6_head rfl rfl rfl (by decide +kernel) ⟨Nat.le_of_ble_eq_true rfl, Nat.le_of_ble_eq_true rfl⟩) rfl hl_70.1 rfl (Nat.le_of_ble_eq_true rfl) dX6_lay_89 ⟨Nat.zero_le _, Nat.zero_le _⟩ (fun v11 E8 H9 k10 W8 I8 G8 p8 => ?_)
        have q8 := p8
        have q8 := q8.symm
        subst q8
        have S8 : Now D TB cy (va_A (va_pl L E) sz) s L τ E_70 H9 k10 := ⟨W8, I8⟩
        refine tr_iast Z.1 Z.2.2.2.1 S8.1 S8.2 hq7 tq7 rfl (by omega) (by omega) (by have := fb_rng v11; omega) (by have := fb_rng v11; omega) dX6_lay_92 (fun E12 H13 k14 W12 I12 P12 => ?_)
        have S12 : Now D TB cy (va_A (va_pl L E) sz) s L τ E12 H13 k14 := ⟨W12, I12⟩
        have F12 : Fr L τ (inW [(5, 1), (100, 1), (101, 1), (102, 1), (103, 1), (104, 1), (105, 1), (106, 1), (107, 1), (108, 1), (109, 1), (110, 1), (111, 1), (112, 1)]) E E12 := Fr.set F_70 P12 tq7 rfl
        obtain ⟨v15, ev15⟩ : ∃ y : Int32, x2_70 + Int32.ofInt (1) = y := ⟨_, rfl⟩
        have tv15 : v15.toInt = x2_70.toInt + (1) := by rw [← ev15]; exact (fb_addI (by rw [show (Int32.ofInt (1)).toInt = 1 from by decide +kernel]; omega) (by rw [show (Int32.ofInt (1)).toInt = 1 from by decide +kernel]; omega)).trans (by rw [show (Int32.ofInt (1)).toInt = 1 from by decide +kernel])
        refine lv_iinc (v := v15) (lv' := [(2, .int v15), (0, .ref a0), (1, .ref a1)]) hx hb dX6_lay_93 hl_70 (k := 2) rfl ev15 (by decide) rfl (fun l16 hl17 => ?_)
        refine lv_goto (tgt := 70) hx hb dX6_lay_96 (by decide) ?_
        exact ih_70 v15 E12 H13 k14 l16 S12 F12 (by omega) (by omega) (by omega) (lv_sub hl17 [1, 2, 0] rfl)
  have J32 : ∀ (n : Nat) (x2_32 : Int32) (E_32 : Ec) (H_32 : Heap) (k_32 : List Loc) (l_32 : Array Slot), Now D TB cy (va_A (va_pl L E) sz) s L τ E_32 H_32 k_32 → Fr L τ (inW [(5, 1), (100, 1), (101, 1), (102, 1), (103, 1), (104, 1), (105, 1), (106, 1), (107, 1), (108, 1), (109, 1), (110, 1), (111, 1), (112, 1)]) E E_32 → (0 ≤ x2_32.toInt) → (x2_32.toInt ≤ 3) → (3 - x2_32.toInt).toNat < n → lv_has l_32 3 [(0, .ref a0), (1, .ref a1), (2, .int x2_32)] → W p l e { frames := 3, cells := 0, slots := 0, locals := 72 } s m args below meth c H_32 k_32 0 0 QQ (F0 m 32 l_32 []) := by
    intro n
    induction n with
    | zero => intro x2_32 E_32 H_32 k_32 l_32 S_32 F_32 z18 z19 hm hl_32; exact absurd hm (Nat.not_lt_zero _)
    | succ n ih =>
      intro x2_32 E_32 H_32 k_32 l_32 S_32 F_32 z18 z19 hm hl_32
      have ih_32 := ih
      have J62 : ∀  (E_62 : Ec) (H_62 : Heap) (k_62 : List Loc) (l_62 : Array Slot), Now D TB cy (va_A (va_pl L E) sz) s L τ E_62 H_62 k_62 → Fr L τ (inW [(5, 1), (100, 1), (101, 1), (102, 1), (103, 1), (104, 1), (105, 1), (106, 1), (107, 1), (108, 1), (109, 1), (110, 1), (111, 1), (112, 1)]) E E_62 → (0 ≤ x2_32.toInt) → (x2_32.toInt ≤ 2) → lv_has l_62 3 [(0, .ref a0), (1, .ref a1), (2, .int x2_32)] → W p l e { frames := 3, cells := 0, slots := 0, locals := 72 } s m args below meth c H_62 k_62 0 0 QQ (F0 m 62 l_62 []) := by
        intro  E_62 H_62 k_62 l_62 S_62 F_62 z20 z21 hl_62
        obtain ⟨v22, ev22⟩ : ∃ y : Int32, x2_32 + Int32.ofInt (1) = y := ⟨_, rfl⟩
        have tv22 : v22.toInt = x2_32.toInt + (1) := by rw [← ev22]; exact (fb_addI (by rw [show (Int32.ofInt (1)).toInt = 1 from by decide +kernel]; omega) (by rw [show (Int32.ofInt (1)).toInt = 1 from by decide +kernel]; omega)).trans (by rw [show (Int32.ofInt (1)).toInt = 1 from by decide +kernel])
        refine lv_iinc (v := v22) (lv' := [(2, .int v22), (0, .ref a0), (1, .ref a1)]) hx hb dX6_lay_62 hl_62 (k := 2) rfl ev22 (by decide) rfl (fun l23 hl24 => ?_)
        refine lv_goto (tgt := 32) hx hb dX6_lay_65 (by decide) ?_
        exact ih_32 v22 E_62 H_62 k_62 l23 S_62 F_62 (by omega) (by omega) (by omega) (lv_sub hl24 [1, 2, 0] rfl)
      refine lv_iload_n hx hb dX6_lay_32 rfl (lv_at hl_32 2 rfl) ?_
      refine lv_aload_n hx hb dX6_lay_33 rfl (lv_at hl_32 1 rfl) ?_
      refine tr_geti Z.1 Z.2.2.2.1 S_32.1 S_32.2 ha1 ta1 rfl rfl (fun _ h => List.mem_cons_of_mem _ (List.mem_append_right _ h)) 4 (by decide) rfl (hts _ (List.mem_of_getElem? (i := 5) rfl)) dX6_lay_34 (fun v25 ev25 lv25 uv25 => ?_)
      refine lv_icmp_ge (tgt := 68) hx hb dX6_lay_37 (by decide) (fun c26 => ?_) (fun c26 => ?_)
      · skip
        have tc26 := nu_le c26
        obtain ⟨v27, ev27, tv27⟩ : ∃ v : Int32, Int32.ofInt (0) = v ∧ v.toInt = 0 := ⟨_, rfl, by decide +kernel⟩
        refine lv_iconst hx hb dX6_lay_68 ev27 ?_
        refine lv_istore_n (lv' := [(2, .int v27), (0, .ref a0), (1, .ref a1)]) hx hb dX6_lay_69 rfl hl_32 (by decide) rfl (fun l28 hl29 => ?_)
        exact J70 _ v27 E_32 H_32 k_32 l28 S_32 F_32 (by omega) (by omega) (Nat.lt_succ_self _) (lv_sub hl29 [1, 2, 0] rfl)
      · skip
        have tc26 := nu_nle c26
        refine lv_aload_n hx hb dX6_lay_40 rfl (lv_at hl_32 0 rfl) ?_
        refine lv_aload_n hx hb dX6_lay_41 rfl (lv_at hl_32 1 rfl) ?_
        refine lv_iload_n hx hb dX6_lay_42 rfl (lv_at hl_32 2 rfl) ?_
        refine tc_vv Z.1 Z.2.2.2.1 Z.2.2.2.2.1 Z.2.2.2.2.2 S_32.1 S_32.2 ha0 ta0 rfl rfl (k_X6_layFlight_v1 l D cy S_32.2 ha0 ta0 ha1 ta1 x2_32 (by omega) (by omega)) (cwV 2 hts gX6_lay_X6_layFlight rfl rfl rfl (by decide +kernel) ⟨Nat.le_of_ble_eq_true rfl, Nat.le_of_ble_eq_true rfl⟩) rfl hl_32.1 rfl (Nat.le_of_ble_eq_true rfl) dX6_lay_43 ⟨Nat.zero_le _, Nat.zero_le _⟩ (fun E30 H31 k32 W30 I30 G30 p30 => ?_)
        have S30 : Now D TB cy (va_A (va_pl L E) sz) s L τ E30 H31 k32 := ⟨W30, I30⟩
        have F30 : Fr L τ (inW [(5, 1), (100, 1), (101, 1), (102, 1), (103, 1), (104, 1), (105, 1), (106, 1), (107, 1), (108, 1), (109, 1), (110, 1), (111, 1), (112, 1)]) E E30 := F_32.trans (G30.mono (inW_mono (by decide)))
        refine lv_iload_n hx hb dX6_lay_46 rfl (lv_at hl_32 2 rfl) ?_
        refine lv_aload_n hx hb dX6_lay_47 rfl (lv_at hl_32 1 rfl) ?_
        refine tr_geti Z.1 Z.2.2.2.1 S30.1 S30.2 ha1 ta1 rfl rfl (fun _ h => List.mem_cons_of_mem _ (List.mem_append_right _ h)) 4 (by decide) rfl (hts _ (List.mem_of_getElem? (i := 5) rfl)) dX6_lay_48 (fun v34 ev34 lv34 uv34 => ?_)
        have wv34 : v34 = v25 := ev34.symm.trans ((fi_fr G30 ha1 (by rw [ta1]; rfl)).trans ev25)
        have xv34 : v34.toInt = v25.toInt := by rw [wv34]
        obtain ⟨v35, ev35, tv35⟩ : ∃ v : Int32, Int32.ofInt (1) = v ∧ v.toInt = 1 := ⟨_, rfl, by decide +kernel⟩
        refine lv_iconst hx hb dX6_lay_51 ev35 ?_
        refine lv_isub hx hb dX6_lay_52 ?_
        refine lv_topi (fun v36 ev36 => ?_)
        have tv36 := nu_sub ev36 (by omega) (by omega)
        refine lv_icmp_ge (tgt := 62) hx hb dX6_lay_53 (by decide) (fun c37 => ?_) (fun c37 => ?_)
        · skip
          have tc37 := nu_le c37
          exact J62 E30 H31 k32 l_32 S30 F30 (by omega) (by omega) (lv_sub hl_32 [0, 1, 2] rfl)
        · skip
          have tc37 := nu_nle c37
          refine lv_aload_n hx hb dX6_lay_56 rfl (lv_at hl_32 0 rfl) ?_
          refine lv_aload_n hx hb dX6_lay_57 rfl (lv_at hl_32 1 rfl) ?_
          refine lv_iload_n hx hb dX6_lay_58 rfl (lv_at hl_32 2 rfl) ?_
          refine tc_vv Z.1 Z.2.2.2.1 Z.2.2.2.2.1 Z.2.2.2.2.2 S30.1 S30.2 ha0 ta0 rfl rfl (k_X6_layTurn_v1 l D cy S30.2 ha0 ta0 ha1 ta1 x2_32 (by omega) (by omega)) (cwV 2 hts gX6_lay_X6_layTurn rfl rfl rfl (by decide +kernel) ⟨Nat.le_of_ble_eq_true rfl, Nat.le_of_ble_eq_true rfl⟩) rfl hl_32.1 rfl (Nat.le_of_ble_eq_true rfl) dX6_lay_59 ⟨Nat.zero_le _, Nat.zero_le _⟩ (fun E38 H39 k40 W38 I38 G38 p38 => ?_)
          have S38 : Now D TB cy (va_A (va_pl L E) sz) s L τ E38 H39 k40 := ⟨W38, I38⟩
          have F38 : Fr L τ (inW [(5, 1), (100, 1), (101, 1), (102, 1), (103, 1), (104, 1), (105, 1), (106, 1), (107, 1), (108, 1), (109, 1), (110, 1), (111, 1), (112, 1)]) E E38 := F30.trans (G38.mono (inW_mono (by decide)))
          exact J62 E38 H39 k40 l_32 S38 F38 (by omega) (by omega) (lv_sub hl_32 [0, 1, 2] rfl)
  refine lv_aload_n hx hb dX6_lay_0 rfl (lv_at hl 0 rfl) ?_
  obtain ⟨v42, ev42, tv42⟩ : ∃ v : Int32, Int32.ofInt (0) = v ∧ v.toInt = 0 := ⟨_, rfl, by decide +kernel⟩
  refine lv_iconst hx hb dX6_lay_1 ev42 ?_
  refine tr_puti Z.1 Z.2.2.2.1 S0.1 S0.2 ha0 ta0 rfl rfl (fun _ h => List.mem_cons_of_mem _ (List.mem_append_left _ (List.mem_append_right _ h))) tyX6_ok nmX6 1 (by decide) rfl rfl rfl (hts _ (List.mem_of_getElem? (i := 1) rfl)) dX6_lay_2 (by omega) (by omega) (fun E43 H44 k45 W43 I43 P43 => ?_)
  have S43 : Now D TB cy (va_A (va_pl L E) sz) s L τ E43 H44 k45 := ⟨W43, I43⟩
  have F43 : Fr L τ (inW [(5, 1), (100, 1), (101, 1), (102, 1), (103, 1), (104, 1), (105, 1), (106, 1), (107, 1), (108, 1), (109, 1), (110, 1), (111, 1), (112, 1)]) E E43 := Fr.put F0_ P43 ta0 rfl
  refine lv_aload_n hx hb dX6_lay_5 rfl (lv_at hl 0 rfl) ?_
  obtain ⟨v46, ev46, tv46⟩ : ∃ v : Int32, Int32.ofInt (0) = v ∧ v.toInt = 0 := ⟨_, rfl, by decide +kernel⟩
  refine lv_iconst hx hb dX6_lay_6 ev46 ?_
  refine tr_puti Z.1 Z.2.2.2.1 S43.1 S43.2 ha0 ta0 rfl rfl (fun _ h => List.mem_cons_of_mem _ (List.mem_append_left _ (List.mem_append_right _ h))) tyX6_ok nmX6 3 (by decide) rfl rfl rfl (hts _ (List.mem_of_getElem? (i := 2) rfl)) dX6_lay_7 (by have := fb_rng v46; omega) (by have := fb_rng v46; omega) (fun E47 H48 k49 W47 I47 P47 => ?_)
  have S47 : Now D TB cy (va_A (va_pl L E) sz) s L τ E47 H48 k49 := ⟨W47, I47⟩
  have F47 : Fr L τ (inW [(5, 1), (100, 1), (101, 1), (102, 1), (103, 1), (104, 1), (105, 1), (106, 1), (107, 1), (108, 1), (109, 1), (110, 1), (111, 1), (112, 1)]) E E47 := Fr.put F43 P47 ta0 rfl
  refine lv_aload_n hx hb dX6_lay_10 rfl (lv_at hl 0 rfl) ?_
  obtain ⟨v50, ev50, tv50⟩ : ∃ v : Int32, Int32.ofInt (0) = v ∧ v.toInt = 0 := ⟨_, rfl, by decide +kernel⟩
  refine lv_iconst hx hb dX6_lay_11 ev50 ?_
  refine tr_puti Z.1 Z.2.2.2.1 S47.1 S47.2 ha0 ta0 rfl rfl (fun _ h => List.mem_cons_of_mem _ (List.mem_append_left _ (List.mem_append_right _ h))) tyX6_ok nmX6 4 (by decide) rfl rfl rfl (hts _ (List.mem_of_getElem? (i := 3) rfl)) dX6_lay_12 (by have := fb_rng v50; omega) (by have := fb_rng v50; omega) (fun E51 H52 k53 W51 I51 P51 => ?_)
  have S51 : Now D TB cy (va_A (va_pl L E) sz) s L τ E51 H52 k53 := ⟨W51, I51⟩
  have F51 : Fr L τ (inW [(5, 1), (100, 1), (101, 1), (102, 1), (103, 1), (104, 1), (105, 1), (106, 1), (107, 1), (108, 1), (109, 1), (110, 1), (111, 1), (112, 1)]) E E51 := Fr.put F47 P51 ta0 rfl
  refine lv_aload_n hx hb dX6_lay_15 rfl (lv_at hl 0 rfl) ?_
  refine lv_aload_n hx hb dX6_lay_16 rfl (lv_at hl 1 rfl) ?_
  refine tc_vi Z.1 Z.2.2.2.1 Z.2.2.2.2.1 Z.2.2.2.2.2 S51.1 S51.2 ha1 ta1 rfl rfl (k_X4_flightTreads_v2 l D cy S51.2 ha1 ta1) (cwV 0 hts gX6_lay_X4_flightTreads rfl rfl rfl (by decide +kernel) ⟨Nat.le_of_ble_eq_true rfl, Nat.le_of_ble_eq_true rfl⟩) rfl hl.1 rfl (Nat.le_of_ble_eq_true rfl) dX6_lay_17 ⟨Nat.zero_le _, Nat.zero_le _⟩ (fun v57 E54 H55 k56 W54 I54 G54 p54 => ?_)
  have q54 := p54
  have q54 := q54.symm
  subst q54
  have S54 : Now D TB cy (va_A (va_pl L E) sz) s L τ E51 H55 k56 := ⟨W54, I54⟩
  refine lv_aload_n hx hb dX6_lay_20 rfl (lv_at hl 1 rfl) ?_
  refine tc_vi Z.1 Z.2.2.2.1 Z.2.2.2.2.1 Z.2.2.2.2.2 S54.1 S54.2 ha1 ta1 rfl rfl (k_X4_turnTreads_v2 l D cy S54.2 ha1 ta1) (cwV 0 hts gX6_lay_X4_turnTreads rfl rfl rfl (by decide +kernel) ⟨Nat.le_of_ble_eq_true rfl, Nat.le_of_ble_eq_true rfl⟩) rfl hl.1 rfl (Nat.le_of_ble_eq_true rfl) dX6_lay_21 ⟨Nat.zero_le _, Nat.zero_le _⟩ (fun v61 E58 H59 k60 W58 I58 G58 p58 => ?_)
  have q58 := p58
  have q58 := q58.symm
  subst q58
  have S58 : Now D TB cy (va_A (va_pl L E) sz) s L τ E51 H59 k60 := ⟨W58, I58⟩
  refine lv_iadd hx hb dX6_lay_24 ?_
  refine lv_topi (fun v62 ev62 => ?_)
  obtain ⟨v63, ev63, tv63⟩ : ∃ v : Int32, Int32.ofInt (1) = v ∧ v.toInt = 1 := ⟨_, rfl, by decide +kernel⟩
  refine lv_iconst hx hb dX6_lay_25 ev63 ?_
  refine lv_iadd hx hb dX6_lay_26 ?_
  refine lv_topi (fun v64 ev64 => ?_)
  refine tr_puti Z.1 Z.2.2.2.1 S58.1 S58.2 ha0 ta0 rfl rfl (fun _ h => List.mem_cons_of_mem _ (List.mem_append_left _ (List.mem_append_right _ h))) tyX6_ok nmX6 2 (by decide) rfl rfl rfl (hts _ (List.mem_of_getElem? (i := 4) rfl)) dX6_lay_27 (by have := fb_rng v64; omega) (by have := fb_rng v64; omega) (fun E65 H66 k67 W65 I65 P65 => ?_)
  have S65 : Now D TB cy (va_A (va_pl L E) sz) s L τ E65 H66 k67 := ⟨W65, I65⟩
  have F65 : Fr L τ (inW [(5, 1), (100, 1), (101, 1), (102, 1), (103, 1), (104, 1), (105, 1), (106, 1), (107, 1), (108, 1), (109, 1), (110, 1), (111, 1), (112, 1)]) E E65 := Fr.put F51 P65 ta0 rfl
  obtain ⟨v68, ev68, tv68⟩ : ∃ v : Int32, Int32.ofInt (0) = v ∧ v.toInt = 0 := ⟨_, rfl, by decide +kernel⟩
  refine lv_iconst hx hb dX6_lay_30 ev68 ?_
  refine lv_istore_n (lv' := [(2, .int v68), (0, .ref a0), (1, .ref a1)]) hx hb dX6_lay_31 rfl hl (by decide) rfl (fun l69 hl70 => ?_)
  exact J32 _ v68 E65 H66 k67 l69 S65 F65 (by omega) (by omega) (Nat.lt_succ_self _) (lv_sub hl70 [1, 2, 0] rfl)

