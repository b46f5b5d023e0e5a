set_option maxRecDepth 20000 in
theorem ggX10_size_X10_asTold : GoodIn wsX10_size wsX10_asTold := goodIn_r _ [11, 12, 2, 13, 14, 15, 10, 16, 3, 17, 18, 19, 4, 20, 21, 22, 23, 24, 25, 26, 27, 28, 29, 30, 31, 32, 37, 38, 39, 40, 41, 42, 43, 44, 45, 46, 47, 48, 49, 50, 51, 52, 53, 54, 55, 56, 57, 58, 59, 60, 61, 62, 63, 64, 65, 66, 67, 68, 69, 70, 71, 72, 73, 74, 75, 76, 77, 78, 79, 80, 81, 82, 83, 84] (by decide +kernel) (by decide +kernel)
set_option maxRecDepth 20000 in
theorem gX10_size_X10_asTold : GoodIn wsX10_size (wsV RX10 134 RX10 yX10_asTold wsX10_asTold) := goodIn_app (goodIn_of _ (by decide +kernel)) ggX10_size_X10_asTold
set_option maxRecDepth 20000 in
theorem ggX10_size_X10_priceHere : GoodIn wsX10_size wsX10_priceHere := goodIn_r _ [36, 3, 2, 29, 37, 38, 39, 40, 41, 42, 43, 44, 45, 46, 47, 48, 49, 50, 51, 52, 53, 54, 55, 56, 57, 58, 59, 60, 61, 62, 63, 64, 65, 66, 67, 68, 69, 70, 71, 72, 73, 74, 75, 76, 77, 78, 79, 80, 81, 82, 83, 84] (by decide +kernel) (by decide +kernel)
set_option maxRecDepth 20000 in
theorem gX10_size_X10_priceHere : GoodIn wsX10_size (wsV RX10 137 RX10 yX10_priceHere wsX10_priceHere) := goodIn_app (goodIn_of _ (by decide +kernel)) ggX10_size_X10_priceHere
theorem dX10_size_0 : decode cX10_size 0 = .ok (.aload_n 0, 1) := by decide +kernel
theorem dX10_size_1 : decode cX10_size 1 = .ok (.iconst 0, 1) := by decide +kernel
theorem dX10_size_2 : decode cX10_size 2 = .ok (.putfield 97, 3) := by decide +kernel
theorem dX10_size_5 : decode cX10_size 5 = .ok (.aload_n 0, 1) := by decide +kernel
theorem dX10_size_6 : decode cX10_size 6 = .ok (.invokevirtual 134, 3) := by decide +kernel
theorem dX10_size_9 : decode cX10_size 9 = .ok (.iconst 0, 1) := by decide +kernel
theorem dX10_size_10 : decode cX10_size 10 = .ok (.istore_n 2, 1) := by decide +kernel
theorem dX10_size_11 : decode cX10_size 11 = .ok (.iload_n 1, 1) := by decide +kernel
theorem dX10_size_12 : decode cX10_size 12 = .ok (.tableswitch 141 0 11 #[64, 64, 64, 64, 71, 78, 83, 91, 99, 104, 131, 136], 64) := by decide +kernel
theorem dX10_size_76 : decode cX10_size 76 = .ok (.aload_n 0, 1) := by decide +kernel
theorem dX10_size_77 : decode cX10_size 77 = .ok (.getfield 7, 3) := by decide +kernel
theorem dX10_size_80 : decode cX10_size 80 = .ok (.iload_n 1, 1) := by decide +kernel
theorem dX10_size_81 : decode cX10_size 81 = .ok (.iaload, 1) := by decide +kernel
theorem dX10_size_82 : decode cX10_size 82 = .ok (.ireturn, 1) := by decide +kernel
theorem dX10_size_83 : decode cX10_size 83 = .ok (.aload_n 0, 1) := by decide +kernel
theorem dX10_size_84 : decode cX10_size 84 = .ok (.getfield 7, 3) := by decide +kernel
theorem dX10_size_87 : decode cX10_size 87 = .ok (.iconst 4, 1) := by decide +kernel
theorem dX10_size_88 : decode cX10_size 88 = .ok (.iaload, 1) := by decide +kernel
theorem dX10_size_89 : decode cX10_size 89 = .ok (.ireturn, 1) := by decide +kernel
theorem dX10_size_90 : decode cX10_size 90 = .ok (.aload_n 0, 1) := by decide +kernel
theorem dX10_size_91 : decode cX10_size 91 = .ok (.getfield 112, 3) := by decide +kernel
theorem dX10_size_94 : decode cX10_size 94 = .ok (.ireturn, 1) := by decide +kernel
theorem dX10_size_95 : decode cX10_size 95 = .ok (.aload_n 0, 1) := by decide +kernel
theorem dX10_size_96 : decode cX10_size 96 = .ok (.getfield 7, 3) := by decide +kernel
theorem dX10_size_99 : decode cX10_size 99 = .ok (.bipush 44, 2) := by decide +kernel
theorem dX10_size_101 : decode cX10_size 101 = .ok (.iaload, 1) := by decide +kernel
theorem dX10_size_102 : decode cX10_size 102 = .ok (.ireturn, 1) := by decide +kernel
theorem dX10_size_103 : decode cX10_size 103 = .ok (.aload_n 0, 1) := by decide +kernel
theorem dX10_size_104 : decode cX10_size 104 = .ok (.getfield 7, 3) := by decide +kernel
theorem dX10_size_107 : decode cX10_size 107 = .ok (.bipush 19, 2) := by decide +kernel
theorem dX10_size_109 : decode cX10_size 109 = .ok (.iaload, 1) := by decide +kernel
theorem dX10_size_110 : decode cX10_size 110 = .ok (.ireturn, 1) := by decide +kernel
theorem dX10_size_111 : decode cX10_size 111 = .ok (.aload_n 0, 1) := by decide +kernel
theorem dX10_size_112 : decode cX10_size 112 = .ok (.invokevirtual 137, 3) := by decide +kernel
theorem dX10_size_115 : decode cX10_size 115 = .ok (.ireturn, 1) := by decide +kernel
theorem dX10_size_116 : decode cX10_size 116 = .ok (.iconst 0, 1) := by decide +kernel
theorem dX10_size_117 : decode cX10_size 117 = .ok (.istore_n 3, 1) := by decide +kernel
theorem dX10_size_118 : decode cX10_size 118 = .ok (.iload_n 3, 1) := by decide +kernel
theorem dX10_size_119 : decode cX10_size 119 = .ok (.aload_n 0, 1) := by decide +kernel
theorem dX10_size_120 : decode cX10_size 120 = .ok (.getfield 112, 3) := by decide +kernel
theorem dX10_size_123 : decode cX10_size 123 = .ok (.if_icmp .ge 18, 3) := by decide +kernel
theorem dX10_size_126 : decode cX10_size 126 = .ok (.iload_n 2, 1) := by decide +kernel
theorem dX10_size_127 : decode cX10_size 127 = .ok (.aload_n 0, 1) := by decide +kernel
theorem dX10_size_128 : decode cX10_size 128 = .ok (.getfield 32, 3) := by decide +kernel
theorem dX10_size_131 : decode cX10_size 131 = .ok (.iload_n 3, 1) := by decide +kernel
theorem dX10_size_132 : decode cX10_size 132 = .ok (.iaload, 1) := by decide +kernel
theorem dX10_size_133 : decode cX10_size 133 = .ok (.iadd, 1) := by decide +kernel
theorem dX10_size_134 : decode cX10_size 134 = .ok (.istore_n 2, 1) := by decide +kernel
theorem dX10_size_135 : decode cX10_size 135 = .ok (.iinc 3 1, 3) := by decide +kernel
theorem dX10_size_138 : decode cX10_size 138 = .ok (.goto (-20), 3) := by decide +kernel
theorem dX10_size_141 : decode cX10_size 141 = .ok (.iload_n 2, 1) := by decide +kernel
theorem dX10_size_142 : decode cX10_size 142 = .ok (.ireturn, 1) := by decide +kernel
theorem dX10_size_143 : decode cX10_size 143 = .ok (.aload_n 0, 1) := by decide +kernel
theorem dX10_size_144 : decode cX10_size 144 = .ok (.getfield 103, 3) := by decide +kernel
theorem dX10_size_147 : decode cX10_size 147 = .ok (.ireturn, 1) := by decide +kernel
theorem dX10_size_148 : decode cX10_size 148 = .ok (.aload_n 0, 1) := by decide +kernel
theorem dX10_size_149 : decode cX10_size 149 = .ok (.getfield 141, 3) := by decide +kernel
theorem dX10_size_152 : decode cX10_size 152 = .ok (.ireturn, 1) := by decide +kernel
theorem dX10_size_153 : decode cX10_size 153 = .ok (.iconst (-1), 1) := by decide +kernel
theorem dX10_size_154 : decode cX10_size 154 = .ok (.ireturn, 1) := by decide +kernel
set_option maxHeartbeats 4000000 in
set_option maxRecDepth 100000 in
theorem k_X10_size (l : Launch) (D : va_G) (cy : Nat → ClassId) {L : List Nat} {τ : Nat → Ro} {E : Ec} (hI : Inv TB cy L τ E) {a0 : Nat} (ha0 : a0 ∈ L) (ta0 : τ a0 = (11, 0)) (a1 : Int32) : CtI l yX10_size wsX10_size { frames := 3, cells := 0, slots := 0, locals := 74 } D TB cy L τ E [.ref a0, .int a1] (inW [(11, 0), (63, 0), (64, 0), (65, 0), (66, 0), (67, 0), (68, 0), (69, 0), (70, 0), (71, 0), (62, 0)]) (fun r E' => (∀ k : Nat, k ∉ ([4, 8] : List Nat) → fi E' a0 k = fi E a0 k)) := by
  intro sz
  refine sta (cc := cX10_size) (maxL := 4) hI (by decide) rfl (Nat.le_of_ble_eq_true rfl) (fun p e s m args below meth c ls hsz Z S0 hl => ?_)
  have hx := Z.1.1
  have hb := Z.1.2.1
  have hts := Z.1.2.2.2.2
  have F0_ : Fr L τ (inW [(11, 0), (63, 0), (64, 0), (65, 0), (66, 0), (67, 0), (68, 0), (69, 0), (70, 0), (71, 0), (62, 0)]) E E := Fr.refl
  have hl : lv_has ls 4 [(0, .ref a0), (1, .int a1)] := hl
  generalize hQ : MQ below _ args s 0 0 _ = QQ
  have J118 : ∀ (n : Nat) (x2_118 : Int32) (x3_118 : Int32) (E_118 : Ec) (H_118 : Heap) (k_118 : List Loc) (l_118 : Array Slot), Now D TB cy (va_A (va_pl L E) sz) s L τ E_118 H_118 k_118 → Fr L τ (inW [(11, 0), (63, 0), (64, 0), (65, 0), (66, 0), (67, 0), (68, 0), (69, 0), (70, 0), (71, 0), (62, 0)]) E E_118 → (0 ≤ x3_118.toInt) → (x3_118.toInt ≤ 66) → (∀ k : Nat, k ∉ ([4, 8] : List Nat) → fi E_118 a0 k = fi E a0 k) → (66 - x3_118.toInt).toNat < n → lv_has l_118 4 [(0, .ref a0), (2, .int x2_118), (3, .int x3_118)] → W p l e { frames := 3, cells := 0, slots := 0, locals := 74 } s m args below meth c H_118 k_118 0 0 QQ (F0 m 118 l_118 []) := by
    intro n
    induction n with
    | zero => intro x2_118 x3_118 E_118 H_118 k_118 l_118 S_118 F_118 z1 z2 z3 hm hl_118; exact absurd hm (Nat.not_lt_zero _)
    | succ n ih =>
      intro x2_118 x3_118 E_118 H_118 k_118 l_118 S_118 F_118 z1 z2 z3 hm hl_118
      have ih_118 := ih
      refine lv_iload_n hx hb dX10_size_118 rfl (lv_at hl_118 2 rfl) ?_
      refine lv_aload_n hx hb dX10_size_119 rfl (lv_at hl_118 0 rfl) ?_
      refine tr_geti Z.1 Z.2.2.2.1 S_118.1 S_118.2 ha0 ta0 rfl rfl (fun _ h => List.mem_cons_of_mem _ (List.mem_append_right _ h)) 8 (by decide) rfl (hts _ (List.mem_of_getElem? (i := 3) rfl)) dX10_size_120 (fun v4 ev4 lv4 uv4 => ?_)
      refine lv_icmp_ge (tgt := 141) hx hb dX10_size_123 (by decide) (fun c5 => ?_) (fun c5 => ?_)
      · skip
        have tc5 := nu_le c5
        refine lv_iload_n hx hb dX10_size_141 rfl (lv_at hl_118 1 rfl) ?_
        rw [← hQ]
        exact en_i Z S_118 F_118 (fun k hk => (z3 k hk)) dX10_size_142
      · skip
        have tc5 := nu_nle c5
        refine lv_iload_n hx hb dX10_size_126 rfl (lv_at hl_118 1 rfl) ?_
        refine lv_aload_n hx hb dX10_size_127 rfl (lv_at hl_118 0 rfl) ?_
        refine tr_getr Z.1 Z.2.2.2.1 S_118.1 S_118.2 ha0 ta0 rfl rfl (fun _ h => List.mem_cons_of_mem _ (List.mem_append_right _ h)) 12 (by decide) rfl (hts _ (List.mem_of_getElem? (i := 4) rfl)) dX10_size_128 (fun q6 eq6 hq6 tq6 => ?_)
        have tq6 : τ q6 = (66, 0) := tq6
        refine lv_iload_n hx hb dX10_size_131 rfl (lv_at hl_118 2 rfl) ?_
        refine tr_iald Z.1 Z.2.2.2.1 S_118.1 S_118.2 hq6 tq6 rfl (by omega) (by omega) dX10_size_132 (fun v7 ev7 lv7 uv7 => ?_)
        refine lv_iadd hx hb dX10_size_133 ?_
        refine lv_topi (fun v8 ev8 => ?_)
        refine lv_istore_n (lv' := [(2, .int v8), (0, .ref a0), (3, .int x3_118)]) hx hb dX10_size_134 rfl hl_118 (by decide) rfl (fun l9 hl10 => ?_)
        obtain ⟨v11, ev11⟩ : ∃ y : Int32, x3_118 + Int32.ofInt (1) = y := ⟨_, rfl⟩
        have tv11 : v11.toInt = x3_118.toInt + (1) := by rw [← ev11]; exact (fb_addI (by rw [show (Int32.ofInt (1)).toInt = 1 from by decide +kernel]; omega) (by rw [show (Int32.ofInt (1)).toInt = 1 from by decide +kernel]; omega)).trans (by rw [show (Int32.ofInt (1)).toInt = 1 from by decide +kernel])
        refine lv_iinc (v := v11) (lv' := [(3, .int v11), (2, .int v8), (0, .ref a0)]) hx hb dX10_size_135 hl10 (k := 2) rfl ev11 (by decide) rfl (fun l12 hl13 => ?_)
        refine lv_goto (tgt := 118) hx hb dX10_size_138 (by decide) ?_
        exact ih_118 v8 v11 E_118 H_118 k_118 l12 S_118 F_118 (by have := fb_rng v8; omega) (by have := fb_rng v8; omega) (fun k hk => (z3 k hk)) (by omega) (lv_sub hl13 [2, 1, 0] rfl)
  have J76 : ∀  (E_76 : Ec) (H_76 : Heap) (k_76 : List Loc) (l_76 : Array Slot), Now D TB cy (va_A (va_pl L E) sz) s L τ E_76 H_76 k_76 → Fr L τ (inW [(11, 0), (63, 0), (64, 0), (65, 0), (66, 0), (67, 0), (68, 0), (69, 0), (70, 0), (71, 0), (62, 0)]) E E_76 → (0 ≤ a1.toInt) → (a1.toInt ≤ 3) → (∀ k : Nat, k ∉ ([4, 8] : List Nat) → fi E_76 a0 k = fi E a0 k) → lv_has l_76 4 [(0, .ref a0), (1, .int a1)] → W p l e { frames := 3, cells := 0, slots := 0, locals := 74 } s m args below meth c H_76 k_76 0 0 QQ (F0 m 76 l_76 []) := by
    intro  E_76 H_76 k_76 l_76 S_76 F_76 z14 z15 z16 hl_76
    refine lv_aload_n hx hb dX10_size_76 rfl (lv_at hl_76 0 rfl) ?_
    refine tr_getr Z.1 Z.2.2.2.1 S_76.1 S_76.2 ha0 ta0 rfl rfl (fun _ h => List.mem_cons_of_mem _ (List.mem_append_right _ h)) 0 (by decide) rfl (hts _ (List.mem_of_getElem? (i := 2) rfl)) dX10_size_77 (fun q17 eq17 hq17 tq17 => ?_)
    have tq17 : τ q17 = (60, 0) := tq17
    refine lv_iload_n hx hb dX10_size_80 rfl (lv_at hl_76 1 rfl) ?_
    refine tr_ialdx Z.1 Z.2.2.2.1 S_76.1 S_76.2 hq17 tq17 rfl (by omega) (by omega) dX10_size_81 (fun v18 ev18 lv18 uv18 => ?_)
    have bv18 : nowB a1.toNatClampNeg = (-2147483648, 2147483647) := nb_o (by show a1.toInt.toNat < 4 ∨ (8 ≤ a1.toInt.toNat ∧ a1.toInt.toNat ≤ 18) ∨ (20 ≤ a1.toInt.toNat ∧ a1.toInt.toNat ≤ 43); omega)
    rw [bv18] at lv18 uv18
    have lv18 : -2147483648 ≤ v18.toInt := lv18
    have uv18 : v18.toInt ≤ 2147483647 := uv18
    rw [← hQ]
    exact en_i Z S_76 F_76 (fun k hk => (z16 k hk)) dX10_size_82
  refine lv_aload_n hx hb dX10_size_0 rfl (lv_at hl 0 rfl) ?_
  obtain ⟨v19, ev19, tv19⟩ : ∃ v : Int32, Int32.ofInt (0) = v ∧ v.toInt = 0 := ⟨_, rfl, by decide +kernel⟩
  refine lv_iconst hx hb dX10_size_1 ev19 ?_
  refine tr_puti Z.1 Z.2.2.2.1 S0.1 S0.2 ha0 ta0 rfl rfl (fun _ h => List.mem_cons_of_mem _ (List.mem_append_right _ h)) tyX10_ok nmX10 4 (by decide) rfl rfl rfl (hts _ (List.mem_of_getElem? (i := 1) rfl)) dX10_size_2 (by omega) (by omega) (fun E20 H21 k22 W20 I20 P20 => ?_)
  have S20 : Now D TB cy (va_A (va_pl L E) sz) s L τ E20 H21 k22 := ⟨W20, I20⟩
  have F20 : Fr L τ (inW [(11, 0), (63, 0), (64, 0), (65, 0), (66, 0), (67, 0), (68, 0), (69, 0), (70, 0), (71, 0), (62, 0)]) E E20 := Fr.put F0_ P20 ta0 rfl
  refine lv_aload_n hx hb dX10_size_5 rfl (lv_at hl 0 rfl) ?_
  refine tc_vv Z.1 Z.2.2.2.1 Z.2.2.2.2.1 Z.2.2.2.2.2 S20.1 S20.2 ha0 ta0 rfl rfl (k_X10_asTold l D cy S20.2 ha0 ta0) (cwV 0 hts gX10_size_X10_asTold rfl rfl rfl (by decide +kernel) ⟨Nat.le_of_ble_eq_true rfl, Nat.le_of_ble_eq_true rfl⟩) rfl hl.1 rfl (Nat.le_of_ble_eq_true rfl) dX10_size_6 ⟨Nat.zero_le _, Nat.zero_le _⟩ (fun E23 H24 k25 W23 I23 G23 p23 => ?_)
  have p23_0 := p23
  have S23 : Now D TB cy (va_A (va_pl L E) sz) s L τ E23 H24 k25 := ⟨W23, I23⟩
  have F23 : Fr L τ (inW [(11, 0), (63, 0), (64, 0), (65, 0), (66, 0), (67, 0), (68, 0), (69, 0), (70, 0), (71, 0), (62, 0)]) E E23 := F20.trans (G23.mono (inW_mono (by decide)))
  obtain ⟨v27, ev27, tv27⟩ : ∃ v : Int32, Int32.ofInt (0) = v ∧ v.toInt = 0 := ⟨_, rfl, by decide +kernel⟩
  refine lv_iconst hx hb dX10_size_9 ev27 ?_
  refine lv_istore_n (lv' := [(2, .int v27), (0, .ref a0), (1, .int a1)]) hx hb dX10_size_10 rfl hl (by decide) rfl (fun l28 hl29 => ?_)
  refine lv_iload_n hx hb dX10_size_11 rfl (lv_at hl29 2 rfl) ?_
  rcases (show (a1.toInt < 0 ∨ 11 < a1.toInt) ∨ a1.toInt = 0 ∨ a1.toInt = 1 ∨ a1.toInt = 2 ∨ a1.toInt = 3 ∨ a1.toInt = 4 ∨ a1.toInt = 5 ∨ a1.toInt = 6 ∨ a1.toInt = 7 ∨ a1.toInt = 8 ∨ a1.toInt = 9 ∨ a1.toInt = 10 ∨ a1.toInt = 11 from by omega) with c30 | c30 | c30 | c30 | c30 | c30 | c30 | c30 | c30 | c30 | c30 | c30 | c30
  · skip
    refine lv_tableOut (tgt := 153) hx hb dX10_size_12 c30 (by decide) ?_
    obtain ⟨v31, ev31, tv31⟩ : ∃ v : Int32, Int32.ofInt (-1) = v ∧ v.toInt = -1 := ⟨_, rfl, by decide +kernel⟩
    refine lv_iconst hx hb dX10_size_153 ev31 ?_
    rw [← hQ]
    exact en_i Z S23 F23 (fun k hk => ((p23_0 k (fw_sub (by decide) hk)).trans ((fi_put P20 (Or.inr (fw_ne (by decide) hk))).trans ((fun k hk => rfl) k hk)))) dX10_size_154
  · skip
    refine lv_tableIn (tgt := 76) (off := 64) hx hb dX10_size_12 (by omega) (by omega) (by rw [show (a1.toInt - 0).toNat = 0 from by omega]; rfl) (by decide) ?_
    exact J76 E23 H24 k25 l28 S23 F23 (by omega) (by omega) (fun k hk => ((p23_0 k (fw_sub (by decide) hk)).trans ((fi_put P20 (Or.inr (fw_ne (by decide) hk))).trans ((fun k hk => rfl) k hk)))) (lv_sub hl29 [1, 2] rfl)
  · skip
    refine lv_tableIn (tgt := 76) (off := 64) hx hb dX10_size_12 (by omega) (by omega) (by rw [show (a1.toInt - 0).toNat = 1 from by omega]; rfl) (by decide) ?_
    exact J76 E23 H24 k25 l28 S23 F23 (by omega) (by omega) (fun k hk => ((p23_0 k (fw_sub (by decide) hk)).trans ((fi_put P20 (Or.inr (fw_ne (by decide) hk))).trans ((fun k hk => rfl) k hk)))) (lv_sub hl29 [1, 2] rfl)
  · skip
    refine lv_tableIn (tgt := 76) (off := 64) hx hb dX10_size_12 (by omega) (by omega) (by rw [show (a1.toInt - 0).toNat = 2 from by omega]; rfl) (by decide) ?_
    exact J76 E23 H24 k25 l28 S23 F23 (by omega) (by omega) (fun k hk => ((p23_0 k (fw_sub (by decide) hk)).trans ((fi_put P20 (Or.inr (fw_ne (by decide) hk))).trans ((fun k hk => rfl) k hk)))) (lv_sub hl29 [1, 2] rfl)
  · skip
    refine lv_tableIn (tgt := 76) (off := 64) hx hb dX10_size_12 (by omega) (by omega) (by rw [show (a1.toInt - 0).toNat = 3 from by omega]; rfl) (by decide) ?_
    exact J76 E23 H24 k25 l28 S23 F23 (by omega) (by omega) (fun k hk => ((p23_0 k (fw_sub (by decide) hk)).trans ((fi_put P20 (Or.inr (fw_ne (by decide) hk))).trans ((fun k hk => rfl) k hk)))) (lv_sub hl29 [1, 2] rfl)
  · skip
    refine lv_tableIn (tgt := 83) (off := 71) hx hb dX10_size_12 (by omega) (by omega) (by rw [show (a1.toInt - 0).toNat = 4 from by omega]; rfl) (by decide) ?_
    refine lv_aload_n hx hb dX10_size_83 rfl (lv_at hl29 1 rfl) ?_
    refine tr_getr Z.1 Z.2.2.2.1 S23.1 S23.2 ha0 ta0 rfl rfl (fun _ h => List.mem_cons_of_mem _ (List.mem_append_right _ h)) 0 (by decide) rfl (hts _ (List.mem_of_getElem? (i := 2) rfl)) dX10_size_84 (fun q32 eq32 hq32 tq32 => ?_)
    have tq32 : τ q32 = (60, 0) := tq32
    obtain ⟨v33, ev33, tv33⟩ : ∃ v : Int32, Int32.ofInt (4) = v ∧ v.toInt = 4 := ⟨_, rfl, by decide +kernel⟩
    refine lv_iconst hx hb dX10_size_87 ev33 ?_
    refine tr_ialdx Z.1 Z.2.2.2.1 S23.1 S23.2 hq32 tq32 rfl (by omega) (by omega) dX10_size_88 (fun v34 ev34 lv34 uv34 => ?_)
    have bv34 : nowB v33.toNatClampNeg = (0, 3) := nb_4 (by show v33.toInt.toNat = 4; omega)
    rw [bv34] at lv34 uv34
    have lv34 : 0 ≤ v34.toInt := lv34
    have uv34 : v34.toInt ≤ 3 := uv34
    have av34 : ai E23 q32 4 = v34 := ai_at ev34 (by omega)
    rw [← hQ]
    exact en_i Z S23 F23 (fun k hk => ((p23_0 k (fw_sub (by decide) hk)).trans ((fi_put P20 (Or.inr (fw_ne (by decide) hk))).trans ((fun k hk => rfl) k hk)))) dX10_size_89
  · skip
    refine lv_tableIn (tgt := 90) (off := 78) hx hb dX10_size_12 (by omega) (by omega) (by rw [show (a1.toInt - 0).toNat = 5 from by omega]; rfl) (by decide) ?_
    refine lv_aload_n hx hb dX10_size_90 rfl (lv_at hl29 1 rfl) ?_
    refine tr_geti Z.1 Z.2.2.2.1 S23.1 S23.2 ha0 ta0 rfl rfl (fun _ h => List.mem_cons_of_mem _ (List.mem_append_right _ h)) 8 (by decide) rfl (hts _ (List.mem_of_getElem? (i := 3) rfl)) dX10_size_91 (fun v35 ev35 lv35 uv35 => ?_)
    rw [← hQ]
    exact en_i Z S23 F23 (fun k hk => ((p23_0 k (fw_sub (by decide) hk)).trans ((fi_put P20 (Or.inr (fw_ne (by decide) hk))).trans ((fun k hk => rfl) k hk)))) dX10_size_94
  · skip
    refine lv_tableIn (tgt := 95) (off := 83) hx hb dX10_size_12 (by omega) (by omega) (by rw [show (a1.toInt - 0).toNat = 6 from by omega]; rfl) (by decide) ?_
    refine lv_aload_n hx hb dX10_size_95 rfl (lv_at hl29 1 rfl) ?_
    refine tr_getr Z.1 Z.2.2.2.1 S23.1 S23.2 ha0 ta0 rfl rfl (fun _ h => List.mem_cons_of_mem _ (List.mem_append_right _ h)) 0 (by decide) rfl (hts _ (List.mem_of_getElem? (i := 2) rfl)) dX10_size_96 (fun q36 eq36 hq36 tq36 => ?_)
    have tq36 : τ q36 = (60, 0) := tq36
    obtain ⟨v37, ev37, tv37⟩ : ∃ v : Int32, (Int8.ofInt (44)).toInt32 = v ∧ v.toInt = 44 := ⟨_, rfl, by decide +kernel⟩
    refine lv_bipush hx hb dX10_size_99 ev37 ?_
    refine tr_ialdx Z.1 Z.2.2.2.1 S23.1 S23.2 hq36 tq36 rfl (by omega) (by omega) dX10_size_101 (fun v38 ev38 lv38 uv38 => ?_)
    have bv38 : nowB v37.toNatClampNeg = (0, 8) := nb_44 (by show v37.toInt.toNat = 44; omega)
    rw [bv38] at lv38 uv38
    have lv38 : 0 ≤ v38.toInt := lv38
    have uv38 : v38.toInt ≤ 8 := uv38
    have av38 : ai E23 q36 44 = v38 := ai_at ev38 (by omega)
    rw [← hQ]
    exact en_i Z S23 F23 (fun k hk => ((p23_0 k (fw_sub (by decide) hk)).trans ((fi_put P20 (Or.inr (fw_ne (by decide) hk))).trans ((fun k hk => rfl) k hk)))) dX10_size_102
  · skip
    refine lv_tableIn (tgt := 103) (off := 91) hx hb dX10_size_12 (by omega) (by omega) (by rw [show (a1.toInt - 0).toNat = 7 from by omega]; rfl) (by decide) ?_
    refine lv_aload_n hx hb dX10_size_103 rfl (lv_at hl29 1 rfl) ?_
    refine tr_getr Z.1 Z.2.2.2.1 S23.1 S23.2 ha0 ta0 rfl rfl (fun _ h => List.mem_cons_of_mem _ (List.mem_append_right _ h)) 0 (by decide) rfl (hts _ (List.mem_of_getElem? (i := 2) rfl)) dX10_size_104 (fun q39 eq39 hq39 tq39 => ?_)
    have tq39 : τ q39 = (60, 0) := tq39
    obtain ⟨v40, ev40, tv40⟩ : ∃ v : Int32, (Int8.ofInt (19)).toInt32 = v ∧ v.toInt = 19 := ⟨_, rfl, by decide +kernel⟩
    refine lv_bipush hx hb dX10_size_107 ev40 ?_
    refine tr_ialdx Z.1 Z.2.2.2.1 S23.1 S23.2 hq39 tq39 rfl (by omega) (by omega) dX10_size_109 (fun v41 ev41 lv41 uv41 => ?_)
    have bv41 : nowB v40.toNatClampNeg = (0, 8) := nb_19 (by show v40.toInt.toNat = 19; omega)
    rw [bv41] at lv41 uv41
    have lv41 : 0 ≤ v41.toInt := lv41
    have uv41 : v41.toInt ≤ 8 := uv41
    have av41 : ai E23 q39 19 = v41 := ai_at ev41 (by omega)
    rw [← hQ]
    exact en_i Z S23 F23 (fun k hk => ((p23_0 k (fw_sub (by decide) hk)).trans ((fi_put P20 (Or.inr (fw_ne (by decide) hk))).trans ((fun k hk => rfl) k hk)))) dX10_size_110
  · skip
    refine lv_tableIn (tgt := 111) (off := 99) hx hb dX10_size_12 (by omega) (by omega) (by rw [show (a1.toInt - 0).toNat = 8 from by omega]; rfl) (by decide) ?_
    refine lv_aload_n hx hb dX10_size_111 rfl (lv_at hl29 1 rfl) ?_
    refine tc_vi Z.1 Z.2.2.2.1 Z.2.2.2.2.1 Z.2.2.2.2.2 S23.1 S23.2 ha0 ta0 rfl rfl (k_X10_priceHere l D cy S23.2 ha0 ta0) (cwV 0 hts gX10_size_X10_priceHere rfl rfl rfl (by decide +kernel) ⟨Nat.le_of_ble_eq_true rfl, Nat.le_of_ble_eq_true rfl⟩) rfl hl29.1 rfl (Nat.le_of_ble_eq_true rfl) dX10_size_112 ⟨Nat.zero_le _, Nat.zero_le _⟩ (fun v45 E42 H43 k44 W42 I42 G42 p42 => ?_)
    have q42 := p42
    have q42 := q42.symm
    subst q42
    have S42 : Now D TB cy (va_A (va_pl L E) sz) s L τ E23 H43 k44 := ⟨W42, I42⟩
    rw [← hQ]
    exact en_i Z S42 F23 (fun k hk => ((p23_0 k (fw_sub (by decide) hk)).trans ((fi_put P20 (Or.inr (fw_ne (by decide) hk))).trans ((fun k hk => rfl) k hk)))) dX10_size_115
  · skip
    refine lv_tableIn (tgt := 116) (off := 104) hx hb dX10_size_12 (by omega) (by omega) (by rw [show (a1.toInt - 0).toNat = 9 from by omega]; rfl) (by decide) ?_
    obtain ⟨v46, ev46, tv46⟩ : ∃ v : Int32, Int32.ofInt (0) = v ∧ v.toInt = 0 := ⟨_, rfl, by decide +kernel⟩
    refine lv_iconst hx hb dX10_size_116 ev46 ?_
    refine lv_istore_n (lv' := [(3, .int v46), (2, .int v27), (0, .ref a0), (1, .int a1)]) hx hb dX10_size_117 rfl hl29 (by decide) rfl (fun l47 hl48 => ?_)
    exact J118 _ v27 v46 E23 H24 k25 l47 S23 F23 (by omega) (by omega) (fun k hk => ((p23_0 k (fw_sub (by decide) hk)).trans ((fi_put P20 (Or.inr (fw_ne (by decide) hk))).trans ((fun k hk => rfl) k hk)))) (Nat.lt_succ_self _) (lv_sub hl48 [2, 1, 0] rfl)
  · skip
    refine lv_tableIn (tgt := 143) (off := 131) hx hb dX10_size_12 (by omega) (by omega) (by rw [show (a1.toInt - 0).toNat = 10 from by omega]; rfl) (by decide) ?_
    refine lv_aload_n hx hb dX10_size_143 rfl (lv_at hl29 1 rfl) ?_
    refine tr_geti Z.1 Z.2.2.2.1 S23.1 S23.2 ha0 ta0 rfl rfl (fun _ h => List.mem_cons_of_mem _ (List.mem_append_right _ h)) 2 (by decide) rfl (hts _ (List.mem_of_getElem? (i := 5) rfl)) dX10_size_144 (fun v49 ev49 lv49 uv49 => ?_)
    rw [← hQ]
    exact en_i Z S23 F23 (fun k hk => ((p23_0 k (fw_sub (by decide) hk)).trans ((fi_put P20 (Or.inr (fw_ne (by decide) hk))).trans ((fun k hk => rfl) k hk)))) dX10_size_147
  · skip
    refine lv_tableIn (tgt := 148) (off := 136) hx hb dX10_size_12 (by omega) (by omega) (by rw [show (a1.toInt - 0).toNat = 11 from by omega]; rfl) (by decide) ?_
    refine lv_aload_n hx hb dX10_size_148 rfl (lv_at hl29 1 rfl) ?_
    refine tr_geti Z.1 Z.2.2.2.1 S23.1 S23.2 ha0 ta0 rfl rfl (fun _ h => List.mem_cons_of_mem _ (List.mem_append_right _ h)) 45 (by decide) rfl (hts _ (List.mem_of_getElem? (i := 6) rfl)) dX10_size_149 (fun v50 ev50 lv50 uv50 => ?_)
    rw [← hQ]
    exact en_i Z S23 F23 (fun k hk => ((p23_0 k (fw_sub (by decide) hk)).trans ((fi_put P20 (Or.inr (fw_ne (by decide) hk))).trans ((fun k hk => rfl) k hk)))) dX10_size_152

set_option maxRecDepth 20000 in
theorem ggX10_tread_X10_asTold : GoodIn wsX10_tread wsX10_asTold := goodIn_r _ [16, 17, 18, 19, 20, 21, 15, 22, 2, 4, 5, 8, 6, 9, 23, 24, 25, 26, 27, 28, 29, 30, 3, 7, 10, 11, 35, 36, 37, 38, 39, 40, 41, 42, 43, 44, 45, 46, 47, 48, 49, 50, 51, 52, 53, 54, 55, 56, 57, 58, 59, 60, 61, 62, 63, 64, 65, 66, 67, 68, 69, 70, 71, 72, 73, 74, 75, 76, 77, 78, 79, 80, 81, 82] (by decide +kernel) (by decide +kernel)
set_option maxRecDepth 20000 in
theorem gX10_tread_X10_asTold : GoodIn wsX10_tread (wsV RX10 134 RX10 yX10_asTold wsX10_asTold) := goodIn_app (goodIn_of _ (by decide +kernel)) ggX10_tread_X10_asTold
set_option maxRecDepth 20000 in
theorem ggX10_tread_X10_in : GoodIn wsX10_tread wsX10_in := goodIn_r _ [34] (by decide +kernel) (by decide +kernel)
set_option maxRecDepth 20000 in
theorem gX10_tread_X10_in : GoodIn wsX10_tread (wsV RX10 123 RX10 yX10_in wsX10_in) := goodIn_app (goodIn_of _ (by decide +kernel)) ggX10_tread_X10_in
theorem dX10_tread_0 : decode cX10_tread 0 = .ok (.aload_n 0, 1) := by decide +kernel
theorem dX10_tread_1 : decode cX10_tread 1 = .ok (.iconst 0, 1) := by decide +kernel
theorem dX10_tread_2 : decode cX10_tread 2 = .ok (.putfield 97, 3) := by decide +kernel
theorem dX10_tread_5 : decode cX10_tread 5 = .ok (.aload_n 0, 1) := by decide +kernel
theorem dX10_tread_6 : decode cX10_tread 6 = .ok (.invokevirtual 134, 3) := by decide +kernel
theorem dX10_tread_9 : decode cX10_tread 9 = .ok (.aload_n 0, 1) := by decide +kernel
theorem dX10_tread_10 : decode cX10_tread 10 = .ok (.iload_n 1, 1) := by decide +kernel
theorem dX10_tread_11 : decode cX10_tread 11 = .ok (.iconst 0, 1) := by decide +kernel
theorem dX10_tread_12 : decode cX10_tread 12 = .ok (.aload_n 0, 1) := by decide +kernel
theorem dX10_tread_13 : decode cX10_tread 13 = .ok (.getfield 112, 3) := by decide +kernel
theorem dX10_tread_16 : decode cX10_tread 16 = .ok (.iconst 1, 1) := by decide +kernel
theorem dX10_tread_17 : decode cX10_tread 17 = .ok (.isub, 1) := by decide +kernel
theorem dX10_tread_18 : decode cX10_tread 18 = .ok (.invokevirtual 123, 3) := by decide +kernel
theorem dX10_tread_21 : decode cX10_tread 21 = .ok (.ifCond .ne 7, 3) := by decide +kernel
theorem dX10_tread_24 : decode cX10_tread 24 = .ok (.sipush (-10000), 3) := by decide +kernel
theorem dX10_tread_27 : decode cX10_tread 27 = .ok (.ireturn, 1) := by decide +kernel
theorem dX10_tread_28 : decode cX10_tread 28 = .ok (.iload_n 2, 1) := by decide +kernel
theorem dX10_tread_29 : decode cX10_tread 29 = .ok (.tableswitch 114 0 8 #[51, 58, 65, 72, 79, 86, 93, 100, 107], 51) := by decide +kernel
theorem dX10_tread_80 : decode cX10_tread 80 = .ok (.aload_n 0, 1) := by decide +kernel
theorem dX10_tread_81 : decode cX10_tread 81 = .ok (.getfield 23, 3) := by decide +kernel
theorem dX10_tread_84 : decode cX10_tread 84 = .ok (.iload_n 1, 1) := by decide +kernel
theorem dX10_tread_85 : decode cX10_tread 85 = .ok (.iaload, 1) := by decide +kernel
theorem dX10_tread_86 : decode cX10_tread 86 = .ok (.ireturn, 1) := by decide +kernel
theorem dX10_tread_87 : decode cX10_tread 87 = .ok (.aload_n 0, 1) := by decide +kernel
theorem dX10_tread_88 : decode cX10_tread 88 = .ok (.getfield 26, 3) := by decide +kernel
theorem dX10_tread_91 : decode cX10_tread 91 = .ok (.iload_n 1, 1) := by decide +kernel
theorem dX10_tread_92 : decode cX10_tread 92 = .ok (.iaload, 1) := by decide +kernel
theorem dX10_tread_93 : decode cX10_tread 93 = .ok (.ireturn, 1) := by decide +kernel
theorem dX10_tread_94 : decode cX10_tread 94 = .ok (.aload_n 0, 1) := by decide +kernel
theorem dX10_tread_95 : decode cX10_tread 95 = .ok (.getfield 29, 3) := by decide +kernel
theorem dX10_tread_98 : decode cX10_tread 98 = .ok (.iload_n 1, 1) := by decide +kernel
theorem dX10_tread_99 : decode cX10_tread 99 = .ok (.iaload, 1) := by decide +kernel
theorem dX10_tread_100 : decode cX10_tread 100 = .ok (.ireturn, 1) := by decide +kernel
theorem dX10_tread_101 : decode cX10_tread 101 = .ok (.aload_n 0, 1) := by decide +kernel
theorem dX10_tread_102 : decode cX10_tread 102 = .ok (.getfield 32, 3) := by decide +kernel
theorem dX10_tread_105 : decode cX10_tread 105 = .ok (.iload_n 1, 1) := by decide +kernel
theorem dX10_tread_106 : decode cX10_tread 106 = .ok (.iaload, 1) := by decide +kernel
theorem dX10_tread_107 : decode cX10_tread 107 = .ok (.ireturn, 1) := by decide +kernel
theorem dX10_tread_108 : decode cX10_tread 108 = .ok (.aload_n 0, 1) := by decide +kernel
theorem dX10_tread_109 : decode cX10_tread 109 = .ok (.getfield 35, 3) := by decide +kernel
theorem dX10_tread_112 : decode cX10_tread 112 = .ok (.iload_n 1, 1) := by decide +kernel
theorem dX10_tread_113 : decode cX10_tread 113 = .ok (.iaload, 1) := by decide +kernel
theorem dX10_tread_114 : decode cX10_tread 114 = .ok (.ireturn, 1) := by decide +kernel
theorem dX10_tread_115 : decode cX10_tread 115 = .ok (.aload_n 0, 1) := by decide +kernel
theorem dX10_tread_116 : decode cX10_tread 116 = .ok (.getfield 38, 3) := by decide +kernel
theorem dX10_tread_119 : decode cX10_tread 119 = .ok (.iload_n 1, 1) := by decide +kernel
theorem dX10_tread_120 : decode cX10_tread 120 = .ok (.iaload, 1) := by decide +kernel
theorem dX10_tread_121 : decode cX10_tread 121 = .ok (.ireturn, 1) := by decide +kernel
theorem dX10_tread_122 : decode cX10_tread 122 = .ok (.aload_n 0, 1) := by decide +kernel
theorem dX10_tread_123 : decode cX10_tread 123 = .ok (.getfield 41, 3) := by decide +kernel
theorem dX10_tread_126 : decode cX10_tread 126 = .ok (.iload_n 1, 1) := by decide +kernel
theorem dX10_tread_127 : decode cX10_tread 127 = .ok (.iaload, 1) := by decide +kernel
theorem dX10_tread_128 : decode cX10_tread 128 = .ok (.ireturn, 1) := by decide +kernel
theorem dX10_tread_129 : decode cX10_tread 129 = .ok (.aload_n 0, 1) := by decide +kernel
theorem dX10_tread_130 : decode cX10_tread 130 = .ok (.getfield 44, 3) := by decide +kernel
theorem dX10_tread_133 : decode cX10_tread 133 = .ok (.iload_n 1, 1) := by decide +kernel
theorem dX10_tread_134 : decode cX10_tread 134 = .ok (.iaload, 1) := by decide +kernel
theorem dX10_tread_135 : decode cX10_tread 135 = .ok (.ireturn, 1) := by decide +kernel
theorem dX10_tread_136 : decode cX10_tread 136 = .ok (.aload_n 0, 1) := by decide +kernel
theorem dX10_tread_137 : decode cX10_tread 137 = .ok (.getfield 47, 3) := by decide +kernel
theorem dX10_tread_140 : decode cX10_tread 140 = .ok (.iload_n 1, 1) := by decide +kernel
theorem dX10_tread_141 : decode cX10_tread 141 = .ok (.iaload, 1) := by decide +kernel
theorem dX10_tread_142 : decode cX10_tread 142 = .ok (.ireturn, 1) := by decide +kernel
theorem dX10_tread_143 : decode cX10_tread 143 = .ok (.sipush (-10000), 3) := by decide +kernel
theorem dX10_tread_146 : decode cX10_tread 146 = .ok (.ireturn, 1) := by decide +kernel
set_option maxHeartbeats 4000000 in
set_option maxRecDepth 100000 in
theorem k_X10_tread (l : Launch) (D : va_G) (cy : Nat → ClassId) {L : List Nat} {τ : Nat → Ro} {E : Ec} (hI : Inv TB cy L τ E) {a0 : Nat} (ha0 : a0 ∈ L) (ta0 : τ a0 = (11, 0)) (a1 : Int32) (a2 : Int32) : CtI l yX10_tread wsX10_tread { frames := 3, cells := 0, slots := 0, locals := 74 } D TB cy L τ E [.ref a0, .int a1, .int a2] (inW [(11, 0), (63, 0), (64, 0), (65, 0), (66, 0), (67, 0), (68, 0), (69, 0), (70, 0), (71, 0), (62, 0)]) (fun r E' => (∀ k : Nat, k ∉ ([4, 8] : List Nat) → fi E' a0 k = fi E a0 k)) := by
  intro sz
  refine sta (cc := cX10_tread) (maxL := 3) hI (by decide) rfl (Nat.le_of_ble_eq_true rfl) (fun p e s m args below meth c ls hsz Z S0 hl => ?_)
  have hx := Z.1.1
  have hb := Z.1.2.1
  have hts := Z.1.2.2.2.2
  have F0_ : Fr L τ (inW [(11, 0), (63, 0), (64, 0), (65, 0), (66, 0), (67, 0), (68, 0), (69, 0), (70, 0), (71, 0), (62, 0)]) E E := Fr.refl
  have hl : lv_has ls 3 [(0, .ref a0), (1, .int a1), (2, .int a2)] := hl
  generalize hQ : MQ below _ args s 0 0 _ = QQ
  refine lv_aload_n hx hb dX10_tread_0 rfl (lv_at hl 0 rfl) ?_
  obtain ⟨v1, ev1, tv1⟩ : ∃ v : Int32, Int32.ofInt (0) = v ∧ v.toInt = 0 := ⟨_, rfl, by decide +kernel⟩
  refine lv_iconst hx hb dX10_tread_1 ev1 ?_
  refine tr_puti Z.1 Z.2.2.2.1 S0.1 S0.2 ha0 ta0 rfl rfl (fun _ h => List.mem_cons_of_mem _ (List.mem_append_right _ h)) tyX10_ok nmX10 4 (by decide) rfl rfl rfl (hts _ (List.mem_of_getElem? (i := 1) rfl)) dX10_tread_2 (by omega) (by omega) (fun E2 H3 k4 W2 I2 P2 => ?_)
  have S2 : Now D TB cy (va_A (va_pl L E) sz) s L τ E2 H3 k4 := ⟨W2, I2⟩
  have F2 : Fr L τ (inW [(11, 0), (63, 0), (64, 0), (65, 0), (66, 0), (67, 0), (68, 0), (69, 0), (70, 0), (71, 0), (62, 0)]) E E2 := Fr.put F0_ P2 ta0 rfl
  refine lv_aload_n hx hb dX10_tread_5 rfl (lv_at hl 0 rfl) ?_
  refine tc_vv Z.1 Z.2.2.2.1 Z.2.2.2.2.1 Z.2.2.2.2.2 S2.1 S2.2 ha0 ta0 rfl rfl (k_X10_asTold l D cy S2.2 ha0 ta0) (cwV 0 hts gX10_tread_X10_asTold rfl rfl rfl (by decide +kernel) ⟨Nat.le_of_ble_eq_true rfl, Nat.le_of_ble_eq_true rfl⟩) rfl hl.1 rfl (Nat.le_of_ble_eq_true rfl) dX10_tread_6 ⟨Nat.zero_le _, Nat.zero_le _⟩ (fun E5 H6 k7 W5 I5 G5 p5 => ?_)
  have p5_0 := p5
  have S5 : Now D TB cy (va_A (va_pl L E) sz) s L τ E5 H6 k7 := ⟨W5, I5⟩
  have F5 : Fr L τ (inW [(11, 0), (63, 0), (64, 0), (65, 0), (66, 0), (67, 0), (68, 0), (69, 0), (70, 0), (71, 0), (62, 0)]) E E5 := F2.trans (G5.mono (inW_mono (by decide)))
  refine lv_aload_n hx hb dX10_tread_9 rfl (lv_at hl 0 rfl) ?_
  refine lv_iload_n hx hb dX10_tread_10 rfl (lv_at hl 1 rfl) ?_
  obtain ⟨v9, ev9, tv9⟩ : ∃ v : Int32, Int32.ofInt (0) = v ∧ v.toInt = 0 := ⟨_, rfl, by decide +kernel⟩
  refine lv_iconst hx hb dX10_tread_11 ev9 ?_
  refine lv_aload_n hx hb dX10_tread_12 rfl (lv_at hl 0 rfl) ?_
  refine tr_geti Z.1 Z.2.2.2.1 S5.1 S5.2 ha0 ta0 rfl rfl (fun _ h => List.mem_cons_of_mem _ (List.mem_append_right _ h)) 8 (by decide) rfl (hts _ (List.mem_of_getElem? (i := 2) rfl)) dX10_tread_13 (fun v10 ev10 lv10 uv10 => ?_)
  obtain ⟨v11, ev11, tv11⟩ : ∃ v : Int32, Int32.ofInt (1) = v ∧ v.toInt = 1 := ⟨_, rfl, by decide +kernel⟩
  refine lv_iconst hx hb dX10_tread_16 ev11 ?_
  refine lv_isub hx hb dX10_tread_17 ?_
  refine lv_topi (fun v12 ev12 => ?_)
  have tv12 := nu_sub ev12 (by omega) (by omega)
  refine tc_vi Z.1 Z.2.2.2.1 Z.2.2.2.2.1 Z.2.2.2.2.2 S5.1 S5.2 ha0 ta0 rfl rfl (k_X10_in l D cy S5.2 ha0 ta0 a1 v9 v12) (cwV 3 hts gX10_tread_X10_in rfl rfl rfl (by decide +kernel) ⟨Nat.le_of_ble_eq_true rfl, Nat.le_of_ble_eq_true rfl⟩) rfl hl.1 rfl (Nat.le_of_ble_eq_true rfl) dX10_tread_18 ⟨Nat.zero_le _, Nat.zero_le _⟩ (fun v16 E13 H14 k15 W13 I13 G13 p13 => ?_)
  obtain ⟨q13, p13_0, p13_1, p13_2⟩ := p13
  have q13 := q13.symm
  subst q13
  have S13 : Now D TB cy (va_A (va_pl L E) sz) s L τ E5 H14 k15 := ⟨W13, I13⟩
  refine lv_if_ne (tgt := 28) hx hb dX10_tread_21 (by decide) (fun c17 => ?_) (fun c17 => ?_)
  · skip
    have tc17 := nu_ne c17
    have uc17 : (0 : Int32).toInt = 0 := rfl
    refine lv_iload_n hx hb dX10_tread_28 rfl (lv_at hl 2 rfl) ?_
    rcases (show (a2.toInt < 0 ∨ 8 < a2.toInt) ∨ a2.toInt = 0 ∨ a2.toInt = 1 ∨ a2.toInt = 2 ∨ a2.toInt = 3 ∨ a2.toInt = 4 ∨ a2.toInt = 5 ∨ a2.toInt = 6 ∨ a2.toInt = 7 ∨ a2.toInt = 8 from by omega) with c18 | c18 | c18 | c18 | c18 | c18 | c18 | c18 | c18 | c18
    · skip
      refine lv_tableOut (tgt := 143) hx hb dX10_tread_29 c18 (by decide) ?_
      obtain ⟨v19, ev19, tv19⟩ : ∃ v : Int32, (Int16.ofInt (-10000)).toInt32 = v ∧ v.toInt = -10000 := ⟨_, rfl, by decide +kernel⟩
      refine lv_sipush hx hb dX10_tread_143 ev19 ?_
      rw [← hQ]
      exact en_i Z S13 F5 (fun k hk => ((p5_0 k (fw_sub (by decide) hk)).trans ((fi_put P2 (Or.inr (fw_ne (by decide) hk))).trans ((fun k hk => rfl) k hk)))) dX10_tread_146
    · skip
      refine lv_tableIn (tgt := 80) (off := 51) hx hb dX10_tread_29 (by omega) (by omega) (by rw [show (a2.toInt - 0).toNat = 0 from by omega]; rfl) (by decide) ?_
      refine lv_aload_n hx hb dX10_tread_80 rfl (lv_at hl 0 rfl) ?_
      refine tr_getr Z.1 Z.2.2.2.1 S13.1 S13.2 ha0 ta0 rfl rfl (fun _ h => List.mem_cons_of_mem _ (List.mem_append_right _ h)) 9 (by decide) rfl (hts _ (List.mem_of_getElem? (i := 3) rfl)) dX10_tread_81 (fun q20 eq20 hq20 tq20 => ?_)
      have tq20 : τ q20 = (63, 0) := tq20
      refine lv_iload_n hx hb dX10_tread_84 rfl (lv_at hl 1 rfl) ?_
      refine tr_iald Z.1 Z.2.2.2.1 S13.1 S13.2 hq20 tq20 rfl (by omega) (by omega) dX10_tread_85 (fun v21 ev21 lv21 uv21 => ?_)
      rw [← hQ]
      exact en_i Z S13 F5 (fun k hk => ((p5_0 k (fw_sub (by decide) hk)).trans ((fi_put P2 (Or.inr (fw_ne (by decide) hk))).trans ((fun k hk => rfl) k hk)))) dX10_tread_86
    · skip
      refine lv_tableIn (tgt := 87) (off := 58) hx hb dX10_tread_29 (by omega) (by omega) (by rw [show (a2.toInt - 0).toNat = 1 from by omega]; rfl) (by decide) ?_
      refine lv_aload_n hx hb dX10_tread_87 rfl (lv_at hl 0 rfl) ?_
      refine tr_getr Z.1 Z.2.2.2.1 S13.1 S13.2 ha0 ta0 rfl rfl (fun _ h => List.mem_cons_of_mem _ (List.mem_append_right _ h)) 10 (by decide) rfl (hts _ (List.mem_of_getElem? (i := 4) rfl)) dX10_tread_88 (fun q22 eq22 hq22 tq22 => ?_)
      have tq22 : τ q22 = (64, 0) := tq22
      refine lv_iload_n hx hb dX10_tread_91 rfl (lv_at hl 1 rfl) ?_
      refine tr_iald Z.1 Z.2.2.2.1 S13.1 S13.2 hq22 tq22 rfl (by omega) (by omega) dX10_tread_92 (fun v23 ev23 lv23 uv23 => ?_)
      rw [← hQ]
      exact en_i Z S13 F5 (fun k hk => ((p5_0 k (fw_sub (by decide) hk)).trans ((fi_put P2 (Or.inr (fw_ne (by decide) hk))).trans ((fun k hk => rfl) k hk)))) dX10_tread_93
    · skip
      refine lv_tableIn (tgt := 94) (off := 65) hx hb dX10_tread_29 (by omega) (by omega) (by rw [show (a2.toInt - 0).toNat = 2 from by omega]; rfl) (by decide) ?_
      refine lv_aload_n hx hb dX10_tread_94 rfl (lv_at hl 0 rfl) ?_
      refine tr_getr Z.1 Z.2.2.2.1 S13.1 S13.2 ha0 ta0 rfl rfl (fun _ h => List.mem_cons_of_mem _ (List.mem_append_right _ h)) 11 (by decide) rfl (hts _ (List.mem_of_getElem? (i := 5) rfl)) dX10_tread_95 (fun q24 eq24 hq24 tq24 => ?_)
      have tq24 : τ q24 = (65, 0) := tq24
      refine lv_iload_n hx hb dX10_tread_98 rfl (lv_at hl 1 rfl) ?_
      refine tr_iald Z.1 Z.2.2.2.1 S13.1 S13.2 hq24 tq24 rfl (by omega) (by omega) dX10_tread_99 (fun v25 ev25 lv25 uv25 => ?_)
      rw [← hQ]
      exact en_i Z S13 F5 (fun k hk => ((p5_0 k (fw_sub (by decide) hk)).trans ((fi_put P2 (Or.inr (fw_ne (by decide) hk))).trans ((fun k hk => rfl) k hk)))) dX10_tread_100
    · skip
      refine lv_tableIn (tgt := 101) (off := 72) hx hb dX10_tread_29 (by omega) (by omega) (by rw [show (a2.toInt - 0).toNat = 3 from by omega]; rfl) (by decide) ?_
      refine lv_aload_n hx hb dX10_tread_101 rfl (lv_at hl 0 rfl) ?_
      refine tr_getr Z.1 Z.2.2.2.1 S13.1 S13.2 ha0 ta0 rfl rfl (fun _ h => List.mem_cons_of_mem _ (List.mem_append_right _ h)) 12 (by decide) rfl (hts _ (List.mem_of_getElem? (i := 6) rfl)) dX10_tread_102 (fun q26 eq26 hq26 tq26 => ?_)
      have tq26 : τ q26 = (66, 0) := tq26
      refine lv_iload_n hx hb dX10_tread_105 rfl (lv_at hl 1 rfl) ?_
      refine tr_iald Z.1 Z.2.2.2.1 S13.1 S13.2 hq26 tq26 rfl (by omega) (by omega) dX10_tread_106 (fun v27 ev27 lv27 uv27 => ?_)
      rw [← hQ]
      exact en_i Z S13 F5 (fun k hk => ((p5_0 k (fw_sub (by decide) hk)).trans ((fi_put P2 (Or.inr (fw_ne (by decide) hk))).trans ((fun k hk => rfl) k hk)))) dX10_tread_107
    · skip
      refine lv_tableIn (tgt := 108) (off := 79) hx hb dX10_tread_29 (by omega) (by omega) (by rw [show (a2.toInt - 0).toNat = 4 from by omega]; rfl) (by decide) ?_
      refine lv_aload_n hx hb dX10_tread_108 rfl (lv_at hl 0 rfl) ?_
      refine tr_getr Z.1 Z.2.2.2.1 S13.1 S13.2 ha0 ta0 rfl rfl (fun _ h => List.mem_cons_of_mem _ (List.mem_append_right _ h)) 13 (by decide) rfl (hts _ (List.mem_of_getElem? (i := 7) rfl)) dX10_tread_109 (fun q28 eq28 hq28 tq28 => ?_)
      have tq28 : τ q28 = (67, 0) := tq28
      refine lv_iload_n hx hb dX10_tread_112 rfl (lv_at hl 1 rfl) ?_
      refine tr_iald Z.1 Z.2.2.2.1 S13.1 S13.2 hq28 tq28 rfl (by omega) (by omega) dX10_tread_113 (fun v29 ev29 lv29 uv29 => ?_)
      rw [← hQ]
      exact en_i Z S13 F5 (fun k hk => ((p5_0 k (fw_sub (by decide) hk)).trans ((fi_put P2 (Or.inr (fw_ne (by decide) hk))).trans ((fun k hk => rfl) k hk)))) dX10_tread_114
    · skip
      refine lv_tableIn (tgt := 115) (off := 86) hx hb dX10_tread_29 (by omega) (by omega) (by rw [show (a2.toInt - 0).toNat = 5 from by omega]; rfl) (by decide) ?_
      refine lv_aload_n hx hb dX10_tread_115 rfl (lv_at hl 0 rfl) ?_
      refine tr_getr Z.1 Z.2.2.2.1 S13.1 S13.2 ha0 ta0 rfl rfl (fun _ h => List.mem_cons_of_mem _ (List.mem_append_right _ h)) 14 (by decide) rfl (hts _ (List.mem_of_getElem? (i := 8) rfl)) dX10_tread_116 (fun q30 eq30 hq30 tq30 => ?_)
      have tq30 : τ q30 = (68, 0) := tq30
      refine lv_iload_n hx hb dX10_tread_119 rfl (lv_at hl 1 rfl) ?_
      refine tr_iald Z.1 Z.2.2.2.1 S13.1 S13.2 hq30 tq30 rfl (by omega) (by omega) dX10_tread_120 (fun v31 ev31 lv31 uv31 => ?_)
      rw [← hQ]
      exact en_i Z S13 F5 (fun k hk => ((p5_0 k (fw_sub (by decide) hk)).trans ((fi_put P2 (Or.inr (fw_ne (by decide) hk))).trans ((fun k hk => rfl) k hk)))) dX10_tread_121
    · skip
      refine lv_tableIn (tgt := 122) (off := 93) hx hb dX10_tread_29 (by omega) (by omega) (by rw [show (a2.toInt - 0).toNat = 6 from by omega]; rfl) (by decide) ?_
      refine lv_aload_n hx hb dX10_tread_122 rfl (lv_at hl 0 rfl) ?_
      refine tr_getr Z.1 Z.2.2.2.1 S13.1 S13.2 ha0 ta0 rfl rfl (fun _ h => List.mem_cons_of_mem _ (List.mem_append_right _ h)) 15 (by decide) rfl (hts _ (List.mem_of_getElem? (i := 9) rfl)) dX10_tread_123 (fun q32 eq32 hq32 tq32 => ?_)
      have tq32 : τ q32 = (69, 0) := tq32
      refine lv_iload_n hx hb dX10_tread_126 rfl (lv_at hl 1 rfl) ?_
      refine tr_iald Z.1 Z.2.2.2.1 S13.1 S13.2 hq32 tq32 rfl (by omega) (by omega) dX10_tread_127 (fun v33 ev33 lv33 uv33 => ?_)
      rw [← hQ]
      exact en_i Z S13 F5 (fun k hk => ((p5_0 k (fw_sub (by decide) hk)).trans ((fi_put P2 (Or.inr (fw_ne (by decide) hk))).trans ((fun k hk => rfl) k hk)))) dX10_tread_128
    · skip
      refine lv_tableIn (tgt := 129) (off := 100) hx hb dX10_tread_29 (by omega) (by omega) (by rw [show (a2.toInt - 0).toNat = 7 from by omega]; rfl) (by decide) ?_
      refine lv_aload_n hx hb dX10_tread_129 rfl (lv_at hl 0 rfl) ?_
      refine tr_getr Z.1 Z.2.2.2.1 S13.1 S13.2 ha0 ta0 rfl rfl (fun _ h => List.mem_cons_of_mem _ (List.mem_append_right _ h)) 16 (by decide) rfl (hts _ (List.mem_of_getElem? (i := 10) rfl)) dX10_tread_130 (fun q34 eq34 hq34 tq34 => ?_)
      have tq34 : τ q34 = (70, 0) := tq34
      refine lv_iload_n hx hb dX10_tread_133 rfl (lv_at hl 1 rfl) ?_
      refine tr_iald Z.1 Z.2.2.2.1 S13.1 S13.2 hq34 tq34 rfl (by omega) (by omega) dX10_tread_134 (fun v35 ev35 lv35 uv35 => ?_)
      rw [← hQ]
      exact en_i Z S13 F5 (fun k hk => ((p5_0 k (fw_sub (by decide) hk)).trans ((fi_put P2 (Or.inr (fw_ne (by decide) hk))).trans ((fun k hk => rfl) k hk)))) dX10_tread_135
    · skip
      refine lv_tableIn (tgt := 136) (off := 107) hx hb dX10_tread_29 (by omega) (by omega) (by rw [show (a2.toInt - 0).toNat = 8 from by omega]; rfl) (by decide) ?_
      refine lv_aload_n hx hb dX10_tread_136 rfl (lv_at hl 0 rfl) ?_
      refine tr_getr Z.1 Z.2.2.2.1 S13.1 S13.2 ha0 ta0 rfl rfl (fun _ h => List.mem_cons_of_mem _ (List.mem_append_right _ h)) 17 (by decide) rfl (hts _ (List.mem_of_getElem? (i := 11) rfl)) dX10_tread_137 (fun q36 eq36 hq36 tq36 => ?_)
      have tq36 : τ q36 = (71, 0) := tq36
      refine lv_iload_n hx hb dX10_tread_140 rfl (lv_at hl 1 rfl) ?_
      refine tr_iald Z.1 Z.2.2.2.1 S13.1 S13.2 hq36 tq36 rfl (by omega) (by omega) dX10_tread_141 (fun v37 ev37 lv37 uv37 => ?_)
      rw [← hQ]
      exact en_i Z S13 F5 (fun k hk => ((p5_0 k (fw_sub (by decide) hk)).trans ((fi_put P2 (Or.inr (fw_ne (by decide) hk))).trans ((fun k hk => rfl) k hk)))) dX10_tread_142
  · skip
    have tc17 := nu_eq c17
    have uc17 : (0 : Int32).toInt = 0 := rfl
    obtain ⟨v38, ev38, tv38⟩ : ∃ v : Int32, (Int16.ofInt (-10000)).toInt32 = v ∧ v.toInt = -10000 := ⟨_, rfl, by decide +kernel⟩
    refine lv_sipush hx hb dX10_tread_24 ev38 ?_
    rw [← hQ]
    exact en_i Z S13 F5 (fun k hk => ((p5_0 k (fw_sub (by decide) hk)).trans ((fi_put P2 (Or.inr (fw_ne (by decide) hk))).trans ((fun k hk => rfl) k hk)))) dX10_tread_27

set_option maxRecDepth 20000 in
theorem ggX10_riser_X10_asTold : GoodIn wsX10_riser wsX10_asTold := goodIn_r _ [8, 9, 10, 11, 12, 13, 7, 14, 2, 3, 15, 16, 17, 18, 19, 20, 21, 22, 23, 24, 25, 26, 27, 28, 29, 30, 35, 36, 37, 38, 39, 40, 41, 42, 43, 44, 45, 46, 47, 48, 49, 50, 51, 52, 53, 54, 55, 56, 57, 58, 59, 60, 61, 62, 63, 64, 65, 66, 67, 68, 69, 70, 71, 72, 73, 74, 75, 76, 77, 78, 79, 80, 81, 82] (by decide +kernel) (by decide +kernel)
set_option maxRecDepth 20000 in
theorem gX10_riser_X10_asTold : GoodIn wsX10_riser (wsV RX10 134 RX10 yX10_asTold wsX10_asTold) := goodIn_app (goodIn_of _ (by decide +kernel)) ggX10_riser_X10_asTold
set_option maxRecDepth 20000 in
theorem ggX10_riser_X10_in : GoodIn wsX10_riser wsX10_in := goodIn_r _ [34] (by decide +kernel) (by decide +kernel)
set_option maxRecDepth 20000 in
theorem gX10_riser_X10_in : GoodIn wsX10_riser (wsV RX10 123 RX10 yX10_in wsX10_in) := goodIn_app (goodIn_of _ (by decide +kernel)) ggX10_riser_X10_in
theorem dX10_riser_0 : decode cX10_riser 0 = .ok (.aload_n 0, 1) := by decide +kernel
theorem dX10_riser_1 : decode cX10_riser 1 = .ok (.iconst 0, 1) := by decide +kernel
theorem dX10_riser_2 : decode cX10_riser 2 = .ok (.putfield 97, 3) := by decide +kernel
theorem dX10_riser_5 : decode cX10_riser 5 = .ok (.aload_n 0, 1) := by decide +kernel
theorem dX10_riser_6 : decode cX10_riser 6 = .ok (.invokevirtual 134, 3) := by decide +kernel
theorem dX10_riser_9 : decode cX10_riser 9 = .ok (.aload_n 0, 1) := by decide +kernel
theorem dX10_riser_10 : decode cX10_riser 10 = .ok (.iload_n 1, 1) := by decide +kernel
theorem dX10_riser_11 : decode cX10_riser 11 = .ok (.iconst 0, 1) := by decide +kernel
theorem dX10_riser_12 : decode cX10_riser 12 = .ok (.aload_n 0, 1) := by decide +kernel
theorem dX10_riser_13 : decode cX10_riser 13 = .ok (.getfield 112, 3) := by decide +kernel
theorem dX10_riser_16 : decode cX10_riser 16 = .ok (.invokevirtual 123, 3) := by decide +kernel
theorem dX10_riser_19 : decode cX10_riser 19 = .ok (.ifCond .eq 12, 3) := by decide +kernel
theorem dX10_riser_22 : decode cX10_riser 22 = .ok (.aload_n 0, 1) := by decide +kernel
theorem dX10_riser_23 : decode cX10_riser 23 = .ok (.getfield 26, 3) := by decide +kernel
theorem dX10_riser_26 : decode cX10_riser 26 = .ok (.iload_n 1, 1) := by decide +kernel
theorem dX10_riser_27 : decode cX10_riser 27 = .ok (.iaload, 1) := by decide +kernel
theorem dX10_riser_28 : decode cX10_riser 28 = .ok (.goto 4, 3) := by decide +kernel
theorem dX10_riser_31 : decode cX10_riser 31 = .ok (.iconst (-1), 1) := by decide +kernel
theorem dX10_riser_32 : decode cX10_riser 32 = .ok (.ireturn, 1) := by decide +kernel
set_option maxHeartbeats 4000000 in
set_option maxRecDepth 100000 in
theorem k_X10_riser (l : Launch) (D : va_G) (cy : Nat → ClassId) {L : List Nat} {τ : Nat → Ro} {E : Ec} (hI : Inv TB cy L τ E) {a0 : Nat} (ha0 : a0 ∈ L) (ta0 : τ a0 = (11, 0)) (a1 : Int32) : CtI l yX10_riser wsX10_riser { frames := 3, cells := 0, slots := 0, locals := 74 } D TB cy L τ E [.ref a0, .int a1] (inW [(11, 0), (63, 0), (64, 0), (65, 0), (66, 0), (67, 0), (68, 0), (69, 0), (70, 0), (71, 0), (62, 0)]) (fun r E' => (∀ k : Nat, k ∉ ([4, 8] : List Nat) → fi E' a0 k = fi E a0 k)) := by
  intro sz
  refine sta (cc := cX10_riser) (maxL := 2) hI (by decide) rfl (Nat.le_of_ble_eq_true rfl) (fun p e s m args below meth c ls hsz Z S0 hl => ?_)
  have hx := Z.1.1
  have hb := Z.1.2.1
  have hts := Z.1.2.2.2.2
  have F0_ : Fr L τ (inW [(11, 0), (63, 0), (64, 0), (65, 0), (66, 0), (67, 0), (68, 0), (69, 0), (70, 0), (71, 0), (62, 0)]) E E := Fr.refl
  have hl : lv_has ls 2 [(0, .ref a0), (1, .int a1)] := hl
  generalize hQ : MQ below _ args s 0 0 _ = QQ
  refine lv_aload_n hx hb dX10_riser_0 rfl (lv_at hl 0 rfl) ?_
  obtain ⟨v1, ev1, tv1⟩ : ∃ v : Int32, Int32.ofInt (0) = v ∧ v.toInt = 0 := ⟨_, rfl, by decide +kernel⟩
  refine lv_iconst hx hb dX10_riser_1 ev1 ?_
  refine tr_puti Z.1 Z.2.2.2.1 S0.1 S0.2 ha0 ta0 rfl rfl (fun _ h => List.mem_cons_of_mem _ (List.mem_append_right _ h)) tyX10_ok nmX10 4 (by decide) rfl rfl rfl (hts _ (List.mem_of_getElem? (i := 1) rfl)) dX10_riser_2 (by omega) (by omega) (fun E2 H3 k4 W2 I2 P2 => ?_)
  have S2 : Now D TB cy (va_A (va_pl L E) sz) s L τ E2 H3 k4 := ⟨W2, I2⟩
  have F2 : Fr L τ (inW [(11, 0), (63, 0), (64, 0), (65, 0), (66, 0), (67, 0), (68, 0), (69, 0), (70, 0), (71, 0), (62, 0)]) E E2 := Fr.put F0_ P2 ta0 rfl
  refine lv_aload_n hx hb dX10_riser_5 rfl (lv_at hl 0 rfl) ?_
  refine tc_vv Z.1 Z.2.2.2.1 Z.2.2.2.2.1 Z.2.2.2.2.2 S2.1 S2.2 ha0 ta0 rfl rfl (k_X10_asTold l D cy S2.2 ha0 ta0) (cwV 0 hts gX10_riser_X10_asTold rfl rfl rfl (by decide +kernel) ⟨Nat.le_of_ble_eq_true rfl, Nat.le_of_ble_eq_true rfl⟩) rfl hl.1 rfl (Nat.le_of_ble_eq_true rfl) dX10_riser_6 ⟨Nat.zero_le _, Nat.zero_le _⟩ (fun E5 H6 k7 W5 I5 G5 p5 => ?_)
  have p5_0 := p5
  have S5 : Now D TB cy (va_A (va_pl L E) sz) s L τ E5 H6 k7 := ⟨W5, I5⟩
  have F5 : Fr L τ (inW [(11, 0), (63, 0), (64, 0), (65, 0), (66, 0), (67, 0), (68, 0), (69, 0), (70, 0), (71, 0), (62, 0)]) E E5 := F2.trans (G5.mono (inW_mono (by decide)))
  refine lv_aload_n hx hb dX10_riser_9 rfl (lv_at hl 0 rfl) ?_
  refine lv_iload_n hx hb dX10_riser_10 rfl (lv_at hl 1 rfl) ?_
  obtain ⟨v9, ev9, tv9⟩ : ∃ v : Int32, Int32.ofInt (0) = v ∧ v.toInt = 0 := ⟨_, rfl, by decide +kernel⟩
  refine lv_iconst hx hb dX10_riser_11 ev9 ?_
  refine lv_aload_n hx hb dX10_riser_12 rfl (lv_at hl 0 rfl) ?_
  refine tr_geti Z.1 Z.2.2.2.1 S5.1 S5.2 ha0 ta0 rfl rfl (fun _ h => List.mem_cons_of_mem _ (List.mem_append_right _ h)) 8 (by decide) rfl (hts _ (List.mem_of_getElem? (i := 2) rfl)) dX10_riser_13 (fun v10 ev10 lv10 uv10 => ?_)
  refine tc_vi Z.1 Z.2.2.2.1 Z.2.2.2.2.1 Z.2.2.2.2.2 S5.1 S5.2 ha0 ta0 rfl rfl (k_X10_in l D cy S5.2 ha0 ta0 a1 v9 v10) (cwV 3 hts gX10_riser_X10_in rfl rfl rfl (by decide +kernel) ⟨Nat.le_of_ble_eq_true rfl, Nat.le_of_ble_eq_true rfl⟩) rfl hl.1 rfl (Nat.le_of_ble_eq_true rfl) dX10_riser_16 ⟨Nat.zero_le _, Nat.zero_le _⟩ (fun v14 E11 H12 k13 W11 I11 G11 p11 => ?_)
  obtain ⟨q11, p11_0, p11_1, p11_2⟩ := p11
  have q11 := q11.symm
  subst q11
  have S11 : Now D TB cy (va_A (va_pl L E) sz) s L τ E5 H12 k13 := ⟨W11, I11⟩
  refine lv_if_eq (tgt := 31) hx hb dX10_riser_19 (by decide) (fun c15 => ?_) (fun c15 => ?_)
  · skip
    have tc15 := nu_eq c15
    have uc15 : (0 : Int32).toInt = 0 := rfl
    obtain ⟨v16, ev16, tv16⟩ : ∃ v : Int32, Int32.ofInt (-1) = v ∧ v.toInt = -1 := ⟨_, rfl, by decide +kernel⟩
    refine lv_iconst hx hb dX10_riser_31 ev16 ?_
    rw [← hQ]
    exact en_i Z S11 F5 (fun k hk => ((p5_0 k (fw_sub (by decide) hk)).trans ((fi_put P2 (Or.inr (fw_ne (by decide) hk))).trans ((fun k hk => rfl) k hk)))) dX10_riser_32
  · skip
    have tc15 := nu_ne c15
    have uc15 : (0 : Int32).toInt = 0 := rfl
    refine lv_aload_n hx hb dX10_riser_22 rfl (lv_at hl 0 rfl) ?_
    refine tr_getr Z.1 Z.2.2.2.1 S11.1 S11.2 ha0 ta0 rfl rfl (fun _ h => List.mem_cons_of_mem _ (List.mem_append_right _ h)) 10 (by decide) rfl (hts _ (List.mem_of_getElem? (i := 3) rfl)) dX10_riser_23 (fun q17 eq17 hq17 tq17 => ?_)
    have tq17 : τ q17 = (64, 0) := tq17
    refine lv_iload_n hx hb dX10_riser_26 rfl (lv_at hl 1 rfl) ?_
    refine tr_iald Z.1 Z.2.2.2.1 S11.1 S11.2 hq17 tq17 rfl (by omega) (by omega) dX10_riser_27 (fun v18 ev18 lv18 uv18 => ?_)
    refine lv_goto (tgt := 32) hx hb dX10_riser_28 (by decide) ?_
    rw [← hQ]
    exact en_i Z S11 F5 (fun k hk => ((p5_0 k (fw_sub (by decide) hk)).trans ((fi_put P2 (Or.inr (fw_ne (by decide) hk))).trans ((fun k hk => rfl) k hk)))) dX10_riser_32

set_option maxRecDepth 20000 in
theorem ggX10_tell_X10_asTold : GoodIn wsX10_tell wsX10_asTold := goodIn_r _ [9, 10, 11, 12, 13, 14, 8, 15, 2, 16, 17, 18, 19, 20, 21, 22, 23, 24, 25, 26, 27, 28, 29, 30, 31, 32, 37, 38, 39, 40, 41, 42, 43, 44, 45, 46, 47, 48, 49, 50, 51, 52, 53, 54, 55, 56, 57, 58, 59, 60, 61, 62, 63, 64, 65, 66, 67, 68, 69, 70, 71, 72, 73, 74, 75, 76, 77, 78, 79, 80, 81, 82, 83, 84] (by decide +kernel) (by decide +kernel)
set_option maxRecDepth 20000 in
theorem gX10_tell_X10_asTold : GoodIn wsX10_tell (wsV RX10 134 RX10 yX10_asTold wsX10_asTold) := goodIn_app (goodIn_of _ (by decide +kernel)) ggX10_tell_X10_asTold
set_option maxRecDepth 20000 in
theorem ggX10_tell_X10_numberOf : GoodIn wsX10_tell wsX10_numberOf := goodIn_r _ [36, 29, 16, 19, 30, 37, 38, 39, 40, 41, 42, 43, 44, 45, 46, 47, 48, 49, 50, 51, 52, 53, 54, 55, 56, 57, 58, 59, 60, 61, 62, 63, 64, 65, 66, 67, 68, 69, 70, 71, 72, 73, 74, 75, 76, 77, 78, 79, 80, 81, 82, 83, 84] (by decide +kernel) (by decide +kernel)
set_option maxRecDepth 20000 in
theorem gX10_tell_X10_numberOf : GoodIn wsX10_tell (wsV RX10 276 RX10 yX10_numberOf wsX10_numberOf) := goodIn_app (goodIn_of _ (by decide +kernel)) ggX10_tell_X10_numberOf
theorem dX10_tell_0 : decode cX10_tell 0 = .ok (.aload_n 0, 1) := by decide +kernel
theorem dX10_tell_1 : decode cX10_tell 1 = .ok (.iconst 0, 1) := by decide +kernel
theorem dX10_tell_2 : decode cX10_tell 2 = .ok (.putfield 97, 3) := by decide +kernel
theorem dX10_tell_5 : decode cX10_tell 5 = .ok (.aload_n 0, 1) := by decide +kernel
theorem dX10_tell_6 : decode cX10_tell 6 = .ok (.invokevirtual 134, 3) := by decide +kernel
theorem dX10_tell_9 : decode cX10_tell 9 = .ok (.aload_n 0, 1) := by decide +kernel
theorem dX10_tell_10 : decode cX10_tell 10 = .ok (.iconst 4, 1) := by decide +kernel
theorem dX10_tell_11 : decode cX10_tell 11 = .ok (.aload_n 0, 1) := by decide +kernel
theorem dX10_tell_12 : decode cX10_tell 12 = .ok (.getfield 112, 3) := by decide +kernel
theorem dX10_tell_15 : decode cX10_tell 15 = .ok (.imul, 1) := by decide +kernel
theorem dX10_tell_16 : decode cX10_tell 16 = .ok (.putfield 273, 3) := by decide +kernel
theorem dX10_tell_19 : decode cX10_tell 19 = .ok (.iconst 0, 1) := by decide +kernel
theorem dX10_tell_20 : decode cX10_tell 20 = .ok (.istore_n 1, 1) := by decide +kernel
theorem dX10_tell_21 : decode cX10_tell 21 = .ok (.iload_n 1, 1) := by decide +kernel
theorem dX10_tell_22 : decode cX10_tell 22 = .ok (.aload_n 0, 1) := by decide +kernel
theorem dX10_tell_23 : decode cX10_tell 23 = .ok (.getfield 273, 3) := by decide +kernel
theorem dX10_tell_26 : decode cX10_tell 26 = .ok (.if_icmp .ge 20, 3) := by decide +kernel
theorem dX10_tell_29 : decode cX10_tell 29 = .ok (.aload_n 0, 1) := by decide +kernel
theorem dX10_tell_30 : decode cX10_tell 30 = .ok (.getfield 94, 3) := by decide +kernel
theorem dX10_tell_33 : decode cX10_tell 33 = .ok (.iload_n 1, 1) := by decide +kernel
theorem dX10_tell_34 : decode cX10_tell 34 = .ok (.aload_n 0, 1) := by decide +kernel
theorem dX10_tell_35 : decode cX10_tell 35 = .ok (.iload_n 1, 1) := by decide +kernel
theorem dX10_tell_36 : decode cX10_tell 36 = .ok (.invokevirtual 276, 3) := by decide +kernel
theorem dX10_tell_39 : decode cX10_tell 39 = .ok (.iastore, 1) := by decide +kernel
theorem dX10_tell_40 : decode cX10_tell 40 = .ok (.iinc 1 1, 3) := by decide +kernel
theorem dX10_tell_43 : decode cX10_tell 43 = .ok (.goto (-22), 3) := by decide +kernel
theorem dX10_tell_46 : decode cX10_tell 46 = .ok (.aload_n 0, 1) := by decide +kernel
theorem dX10_tell_47 : decode cX10_tell 47 = .ok (.getfield 273, 3) := by decide +kernel
theorem dX10_tell_50 : decode cX10_tell 50 = .ok (.ireturn, 1) := by decide +kernel
set_option maxHeartbeats 4000000 in
set_option maxRecDepth 100000 in
theorem k_X10_tell (l : Launch) (D : va_G) (cy : Nat → ClassId) {L : List Nat} {τ : Nat → Ro} {E : Ec} (hI : Inv TB cy L τ E) {a0 : Nat} (ha0 : a0 ∈ L) (ta0 : τ a0 = (11, 0)) : CtI l yX10_tell wsX10_tell { frames := 3, cells := 0, slots := 0, locals := 74 } D TB cy L τ E [.ref a0] (inW [(11, 0), (63, 0), (64, 0), (65, 0), (66, 0), (67, 0), (68, 0), (69, 0), (70, 0), (71, 0), (62, 0), (86, 0)]) (fun r E' => (∀ k : Nat, k ∉ ([4, 8, 47] : List Nat) → fi E' a0 k = fi E a0 k)) := by
  intro sz
  refine sta (cc := cX10_tell) (maxL := 2) hI (by decide) rfl (Nat.le_of_ble_eq_true rfl) (fun p e s m args below meth c ls hsz Z S0 hl => ?_)
  have hx := Z.1.1
  have hb := Z.1.2.1
  have hts := Z.1.2.2.2.2
  have F0_ : Fr L τ (inW [(11, 0), (63, 0), (64, 0), (65, 0), (66, 0), (67, 0), (68, 0), (69, 0), (70, 0), (71, 0), (62, 0), (86, 0)]) E E := Fr.refl
  have hl : lv_has ls 2 [(0, .ref a0)] := hl
  generalize hQ : MQ below _ args s 0 0 _ = QQ
  have J21 : ∀ (n : Nat) (x1_21 : Int32) (E_21 : Ec) (H_21 : Heap) (k_21 : List Loc) (l_21 : Array Slot), Now D TB cy (va_A (va_pl L E) sz) s L τ E_21 H_21 k_21 → Fr L τ (inW [(11, 0), (63, 0), (64, 0), (65, 0), (66, 0), (67, 0), (68, 0), (69, 0), (70, 0), (71, 0), (62, 0), (86, 0)]) E E_21 → (0 ≤ x1_21.toInt) → (x1_21.toInt ≤ 264) → (∀ k : Nat, k ∉ ([4, 8, 47] : List Nat) → fi E_21 a0 k = fi E a0 k) → (264 - x1_21.toInt).toNat < n → lv_has l_21 2 [(0, .ref a0), (1, .int x1_21)] → W p l e { frames := 3, cells := 0, slots := 0, locals := 74 } s m args below meth c H_21 k_21 0 0 QQ (F0 m 21 l_21 []) := by
    intro n
    induction n with
    | zero => intro x1_21 E_21 H_21 k_21 l_21 S_21 F_21 z1 z2 z3 hm hl_21; exact absurd hm (Nat.not_lt_zero _)
    | succ n ih =>
      intro x1_21 E_21 H_21 k_21 l_21 S_21 F_21 z1 z2 z3 hm hl_21
      have ih_21 := ih
      refine lv_iload_n hx hb dX10_tell_21 rfl (lv_at hl_21 1 rfl) ?_
      refine lv_aload_n hx hb dX10_tell_22 rfl (lv_at hl_21 0 rfl) ?_
      refine tr_geti Z.1 Z.2.2.2.1 S_21.1 S_21.2 ha0 ta0 rfl rfl (fun _ h => List.mem_cons_of_mem _ (List.mem_append_right _ h)) 47 (by decide) rfl (hts _ (List.mem_of_getElem? (i := 3) rfl)) dX10_tell_23 (fun v4 ev4 lv4 uv4 => ?_)
      refine lv_icmp_ge (tgt := 46) hx hb dX10_tell_26 (by decide) (fun c5 => ?_) (fun c5 => ?_)
      · skip
        have tc5 := nu_le c5
        refine lv_aload_n hx hb dX10_tell_46 rfl (lv_at hl_21 0 rfl) ?_
        refine tr_geti Z.1 Z.2.2.2.1 S_21.1 S_21.2 ha0 ta0 rfl rfl (fun _ h => List.mem_cons_of_mem _ (List.mem_append_right _ h)) 47 (by decide) rfl (hts _ (List.mem_of_getElem? (i := 3) rfl)) dX10_tell_47 (fun v6 ev6 lv6 uv6 => ?_)
        have wv6 : v6 = v4 := ev6.symm.trans ev4
        have xv6 : v6.toInt = v4.toInt := by rw [wv6]
        rw [← hQ]
        exact en_i Z S_21 F_21 (fun k hk => (z3 k hk)) dX10_tell_50
      · skip
        have tc5 := nu_nle c5
        refine lv_aload_n hx hb dX10_tell_29 rfl (lv_at hl_21 0 rfl) ?_
        refine tr_getr Z.1 Z.2.2.2.1 S_21.1 S_21.2 ha0 ta0 rfl rfl (fun _ h => List.mem_cons_of_mem _ (List.mem_append_right _ h)) 46 (by decide) rfl (hts _ (List.mem_of_getElem? (i := 4) rfl)) dX10_tell_30 (fun q7 eq7 hq7 tq7 => ?_)
        have tq7 : τ q7 = (86, 0) := tq7
        refine lv_iload_n hx hb dX10_tell_33 rfl (lv_at hl_21 1 rfl) ?_
        refine lv_aload_n hx hb dX10_tell_34 rfl (lv_at hl_21 0 rfl) ?_
        refine lv_iload_n hx hb dX10_tell_35 rfl (lv_at hl_21 1 rfl) ?_
        refine tc_vi Z.1 Z.2.2.2.1 Z.2.2.2.2.1 Z.2.2.2.2.2 S_21.1 S_21.2 ha0 ta0 rfl rfl (k_X10_numberOf l D cy S_21.2 ha0 ta0 x1_21 (by omega) (by omega)) (cwV 1 hts gX10_tell_X10_numberOf rfl rfl rfl (by decide +kernel) ⟨Nat.le_of_ble_eq_true rfl, Nat.le_of_ble_eq_true rfl⟩) rfl hl_21.1 rfl (Nat.le_of_ble_eq_true rfl) dX10_tell_36 ⟨Nat.zero_le _, Nat.zero_le _⟩ (fun v11 E8 H9 k10 W8 I8 G8 p8 => ?_)
        have q8 := p8
        have q8 := q8.symm
        subst q8
        have S8 : Now D TB cy (va_A (va_pl L E) sz) s L τ E_21 H9 k10 := ⟨W8, I8⟩
        refine tr_iast Z.1 Z.2.2.2.1 S8.1 S8.2 hq7 tq7 rfl (by omega) (by omega) (by have := fb_rng v11; omega) (by have := fb_rng v11; omega) dX10_tell_39 (fun E12 H13 k14 W12 I12 P12 => ?_)
        have S12 : Now D TB cy (va_A (va_pl L E) sz) s L τ E12 H13 k14 := ⟨W12, I12⟩
        have F12 : Fr L τ (inW [(11, 0), (63, 0), (64, 0), (65, 0), (66, 0), (67, 0), (68, 0), (69, 0), (70, 0), (71, 0), (62, 0), (86, 0)]) E E12 := Fr.set F_21 P12 tq7 rfl
        obtain ⟨v15, ev15⟩ : ∃ y : Int32, x1_21 + Int32.ofInt (1) = y := ⟨_, rfl⟩
        have tv15 : v15.toInt = x1_21.toInt + (1) := by rw [← ev15]; exact (fb_addI (by rw [show (Int32.ofInt (1)).toInt = 1 from by decide +kernel]; omega) (by rw [show (Int32.ofInt (1)).toInt = 1 from by decide +kernel]; omega)).trans (by rw [show (Int32.ofInt (1)).toInt = 1 from by decide +kernel])
        refine lv_iinc (v := v15) (lv' := [(1, .int v15), (0, .ref a0)]) hx hb dX10_tell_40 hl_21 (k := 1) rfl ev15 (by decide) rfl (fun l16 hl17 => ?_)
        refine lv_goto (tgt := 21) hx hb dX10_tell_43 (by decide) ?_
        exact ih_21 v15 E12 H13 k14 l16 S12 F12 (by omega) (by omega) (fun k hk => ((fi_set P12 (ne_ro ta0 tq7 (by decide))).trans (z3 k hk))) (by omega) (lv_sub hl17 [1, 0] rfl)
  refine lv_aload_n hx hb dX10_tell_0 rfl (lv_at hl 0 rfl) ?_
  obtain ⟨v18, ev18, tv18⟩ : ∃ v : Int32, Int32.ofInt (0) = v ∧ v.toInt = 0 := ⟨_, rfl, by decide +kernel⟩
  refine lv_iconst hx hb dX10_tell_1 ev18 ?_
  refine tr_puti Z.1 Z.2.2.2.1 S0.1 S0.2 ha0 ta0 rfl rfl (fun _ h => List.mem_cons_of_mem _ (List.mem_append_right _ h)) tyX10_ok nmX10 4 (by decide) rfl rfl rfl (hts _ (List.mem_of_getElem? (i := 1) rfl)) dX10_tell_2 (by omega) (by omega) (fun E19 H20 k21 W19 I19 P19 => ?_)
  have S19 : Now D TB cy (va_A (va_pl L E) sz) s L τ E19 H20 k21 := ⟨W19, I19⟩
  have F19 : Fr L τ (inW [(11, 0), (63, 0), (64, 0), (65, 0), (66, 0), (67, 0), (68, 0), (69, 0), (70, 0), (71, 0), (62, 0), (86, 0)]) E E19 := Fr.put F0_ P19 ta0 rfl
  refine lv_aload_n hx hb dX10_tell_5 rfl (lv_at hl 0 rfl) ?_
  refine tc_vv Z.1 Z.2.2.2.1 Z.2.2.2.2.1 Z.2.2.2.2.2 S19.1 S19.2 ha0 ta0 rfl rfl (k_X10_asTold l D cy S19.2 ha0 ta0) (cwV 0 hts gX10_tell_X10_asTold rfl rfl rfl (by decide +kernel) ⟨Nat.le_of_ble_eq_true rfl, Nat.le_of_ble_eq_true rfl⟩) rfl hl.1 rfl (Nat.le_of_ble_eq_true rfl) dX10_tell_6 ⟨Nat.zero_le _, Nat.zero_le _⟩ (fun E22 H23 k24 W22 I22 G22 p22 => ?_)
  have p22_0 := p22
  have S22 : Now D TB cy (va_A (va_pl L E) sz) s L τ E22 H23 k24 := ⟨W22, I22⟩
  have F22 : Fr L τ (inW [(11, 0), (63, 0), (64, 0), (65, 0), (66, 0), (67, 0), (68, 0), (69, 0), (70, 0), (71, 0), (62, 0), (86, 0)]) E E22 := F19.trans (G22.mono (inW_mono (by decide)))
  refine lv_aload_n hx hb dX10_tell_9 rfl (lv_at hl 0 rfl) ?_
  obtain ⟨v26, ev26, tv26⟩ : ∃ v : Int32, Int32.ofInt (4) = v ∧ v.toInt = 4 := ⟨_, rfl, by decide +kernel⟩
  refine lv_iconst hx hb dX10_tell_10 ev26 ?_
  refine lv_aload_n hx hb dX10_tell_11 rfl (lv_at hl 0 rfl) ?_
  refine tr_geti Z.1 Z.2.2.2.1 S22.1 S22.2 ha0 ta0 rfl rfl (fun _ h => List.mem_cons_of_mem _ (List.mem_append_right _ h)) 8 (by decide) rfl (hts _ (List.mem_of_getElem? (i := 2) rfl)) dX10_tell_12 (fun v27 ev27 lv27 uv27 => ?_)
  refine lv_imul hx hb dX10_tell_15 ?_
  refine lv_topi (fun v28 ev28 => ?_)
  have tv28 := nu_mulc' (4) ev28 (by omega) (by omega) (by omega)
  refine tr_puti Z.1 Z.2.2.2.1 S22.1 S22.2 ha0 ta0 rfl rfl (fun _ h => List.mem_cons_of_mem _ (List.mem_append_right _ h)) tyX10_ok nmX10 47 (by decide) rfl rfl rfl (hts _ (List.mem_of_getElem? (i := 3) rfl)) dX10_tell_16 (by omega) (by omega) (fun E29 H30 k31 W29 I29 P29 => ?_)
  have S29 : Now D TB cy (va_A (va_pl L E) sz) s L τ E29 H30 k31 := ⟨W29, I29⟩
  have F29 : Fr L τ (inW [(11, 0), (63, 0), (64, 0), (65, 0), (66, 0), (67, 0), (68, 0), (69, 0), (70, 0), (71, 0), (62, 0), (86, 0)]) E E29 := Fr.put F22 P29 ta0 rfl
  obtain ⟨v32, ev32, tv32⟩ : ∃ v : Int32, Int32.ofInt (0) = v ∧ v.toInt = 0 := ⟨_, rfl, by decide +kernel⟩
  refine lv_iconst hx hb dX10_tell_19 ev32 ?_
  refine lv_istore_n (lv' := [(1, .int v32), (0, .ref a0)]) hx hb dX10_tell_20 rfl hl (by decide) rfl (fun l33 hl34 => ?_)
  exact J21 _ v32 E29 H30 k31 l33 S29 F29 (by omega) (by omega) (fun k hk => ((fi_put P29 (Or.inr (fw_ne (by decide) hk))).trans ((p22_0 k (fw_sub (by decide) hk)).trans ((fi_put P19 (Or.inr (fw_ne (by decide) hk))).trans ((fun k hk => rfl) k hk))))) (Nat.lt_succ_self _) (lv_sub hl34 [1, 0] rfl)

set_option maxRecDepth 20000 in
theorem ggX10_check_X10_no : GoodIn wsX10_check wsX10_no := goodIn_r _ [9, 10, 11, 47, 48, 49, 50, 51, 52, 53, 54, 55, 56, 57, 58, 59, 60, 61, 62, 63, 64, 65, 66, 67, 68, 69, 70, 71, 72, 73, 74, 75, 76, 77, 78, 79, 80, 81, 82, 83, 84, 85, 86, 87, 88, 89, 90, 91, 92, 93, 94] (by decide +kernel) (by decide +kernel)
set_option maxRecDepth 20000 in
theorem gX10_check_X10_no : GoodIn wsX10_check (wsV RX10 144 RX10 yX10_no wsX10_no) := goodIn_app (goodIn_of _ (by decide +kernel)) ggX10_check_X10_no
set_option maxRecDepth 20000 in
theorem ggX10_check_X10_good : GoodIn wsX10_check wsX10_good := goodIn_r _ [15, 10, 11, 47, 48, 49, 50, 51, 52, 53, 54, 55, 56, 57, 58, 59, 60, 61, 62, 63, 64, 65, 66, 67, 68, 69, 70, 71, 72, 73, 74, 75, 76, 77, 78, 79, 80, 81, 82, 83, 84, 85, 86, 87, 88, 89, 90, 91, 92, 93, 94] (by decide +kernel) (by decide +kernel)
set_option maxRecDepth 20000 in
theorem gX10_check_X10_good : GoodIn wsX10_check (wsV RX10 106 RX10 yX10_good wsX10_good) := goodIn_app (goodIn_of _ (by decide +kernel)) ggX10_check_X10_good
set_option maxRecDepth 20000 in
theorem ggX10_check_X10_asTold : GoodIn wsX10_check wsX10_asTold := goodIn_r _ [19, 20, 21, 22, 23, 24, 8, 25, 3, 26, 27, 28, 29, 30, 31, 32, 33, 34, 35, 36, 37, 38, 39, 40, 41, 42, 47, 48, 49, 50, 51, 52, 53, 54, 55, 56, 57, 58, 59, 60, 61, 62, 63, 64, 65, 66, 67, 68, 69, 70, 71, 72, 73, 74, 75, 76, 77, 78, 79, 80, 81, 82, 83, 84, 85, 86, 87, 88, 89, 90, 91, 92, 93, 94] (by decide +kernel) (by decide +kernel)
set_option maxRecDepth 20000 in
theorem gX10_check_X10_asTold : GoodIn wsX10_check (wsV RX10 134 RX10 yX10_asTold wsX10_asTold) := goodIn_app (goodIn_of _ (by decide +kernel)) ggX10_check_X10_asTold
set_option maxRecDepth 20000 in
theorem ggX10_check_X10_numberOf : GoodIn wsX10_check wsX10_numberOf := goodIn_r _ [46, 39, 26, 29, 40, 47, 48, 49, 50, 51, 52, 53, 54, 55, 56, 57, 58, 59, 60, 61, 62, 63, 64, 65, 66, 67, 68, 69, 70, 71, 72, 73, 74, 75, 76, 77, 78, 79, 80, 81, 82, 83, 84, 85, 86, 87, 88, 89, 90, 91, 92, 93, 94] (by decide +kernel) (by decide +kernel)
set_option maxRecDepth 20000 in
theorem gX10_check_X10_numberOf : GoodIn wsX10_check (wsV RX10 276 RX10 yX10_numberOf wsX10_numberOf) := goodIn_app (goodIn_of _ (by decide +kernel)) ggX10_check_X10_numberOf
theorem dX10_check_0 : decode cX10_check 0 = .ok (.aload_n 0, 1) := by decide +kernel
theorem dX10_check_1 : decode cX10_check 1 = .ok (.iconst 0, 1) := by decide +kernel
theorem dX10_check_2 : decode cX10_check 2 = .ok (.putfield 97, 3) := by decide +kernel
theorem dX10_check_5 : decode cX10_check 5 = .ok (.aload_n 0, 1) := by decide +kernel
theorem dX10_check_6 : decode cX10_check 6 = .ok (.getfield 273, 3) := by decide +kernel
theorem dX10_check_9 : decode cX10_check 9 = .ok (.ifCond .ne 9, 3) := by decide +kernel
theorem dX10_check_12 : decode cX10_check 12 = .ok (.aload_n 0, 1) := by decide +kernel
theorem dX10_check_13 : decode cX10_check 13 = .ok (.iconst 5, 1) := by decide +kernel
theorem dX10_check_14 : decode cX10_check 14 = .ok (.invokevirtual 144, 3) := by decide +kernel
theorem dX10_check_17 : decode cX10_check 17 = .ok (.ireturn, 1) := by decide +kernel
theorem dX10_check_18 : decode cX10_check 18 = .ok (.aload_n 0, 1) := by decide +kernel
theorem dX10_check_19 : decode cX10_check 19 = .ok (.invokevirtual 106, 3) := by decide +kernel
theorem dX10_check_22 : decode cX10_check 22 = .ok (.aload_n 0, 1) := by decide +kernel
theorem dX10_check_23 : decode cX10_check 23 = .ok (.invokevirtual 134, 3) := by decide +kernel
theorem dX10_check_26 : decode cX10_check 26 = .ok (.aload_n 0, 1) := by decide +kernel
theorem dX10_check_27 : decode cX10_check 27 = .ok (.getfield 273, 3) := by decide +kernel
theorem dX10_check_30 : decode cX10_check 30 = .ok (.iconst 4, 1) := by decide +kernel
theorem dX10_check_31 : decode cX10_check 31 = .ok (.aload_n 0, 1) := by decide +kernel
theorem dX10_check_32 : decode cX10_check 32 = .ok (.getfield 112, 3) := by decide +kernel
theorem dX10_check_35 : decode cX10_check 35 = .ok (.imul, 1) := by decide +kernel
theorem dX10_check_36 : decode cX10_check 36 = .ok (.if_icmp .eq 6, 3) := by decide +kernel
theorem dX10_check_39 : decode cX10_check 39 = .ok (.bipush (-3), 2) := by decide +kernel
theorem dX10_check_41 : decode cX10_check 41 = .ok (.ireturn, 1) := by decide +kernel
theorem dX10_check_42 : decode cX10_check 42 = .ok (.iconst 0, 1) := by decide +kernel
theorem dX10_check_43 : decode cX10_check 43 = .ok (.istore_n 1, 1) := by decide +kernel
theorem dX10_check_44 : decode cX10_check 44 = .ok (.iload_n 1, 1) := by decide +kernel
theorem dX10_check_45 : decode cX10_check 45 = .ok (.aload_n 0, 1) := by decide +kernel
theorem dX10_check_46 : decode cX10_check 46 = .ok (.getfield 273, 3) := by decide +kernel
theorem dX10_check_49 : decode cX10_check 49 = .ok (.if_icmp .ge 25, 3) := by decide +kernel
theorem dX10_check_52 : decode cX10_check 52 = .ok (.aload_n 0, 1) := by decide +kernel
theorem dX10_check_53 : decode cX10_check 53 = .ok (.getfield 94, 3) := by decide +kernel
theorem dX10_check_56 : decode cX10_check 56 = .ok (.iload_n 1, 1) := by decide +kernel
theorem dX10_check_57 : decode cX10_check 57 = .ok (.iaload, 1) := by decide +kernel
theorem dX10_check_58 : decode cX10_check 58 = .ok (.aload_n 0, 1) := by decide +kernel
theorem dX10_check_59 : decode cX10_check 59 = .ok (.iload_n 1, 1) := by decide +kernel
theorem dX10_check_60 : decode cX10_check 60 = .ok (.invokevirtual 276, 3) := by decide +kernel
theorem dX10_check_63 : decode cX10_check 63 = .ok (.if_icmp .eq 5, 3) := by decide +kernel
theorem dX10_check_66 : decode cX10_check 66 = .ok (.iload_n 1, 1) := by decide +kernel
theorem dX10_check_67 : decode cX10_check 67 = .ok (.ireturn, 1) := by decide +kernel
theorem dX10_check_68 : decode cX10_check 68 = .ok (.iinc 1 1, 3) := by decide +kernel
theorem dX10_check_71 : decode cX10_check 71 = .ok (.goto (-27), 3) := by decide +kernel
theorem dX10_check_74 : decode cX10_check 74 = .ok (.bipush (-2), 2) := by decide +kernel
theorem dX10_check_76 : decode cX10_check 76 = .ok (.ireturn, 1) := by decide +kernel
set_option maxHeartbeats 4000000 in
set_option maxRecDepth 100000 in
theorem k_X10_check (l : Launch) (D : va_G) (cy : Nat → ClassId) {L : List Nat} {τ : Nat → Ro} {E : Ec} (hI : Inv TB cy L τ E) {a0 : Nat} (ha0 : a0 ∈ L) (ta0 : τ a0 = (11, 0)) : CtI l yX10_check wsX10_check { frames := 3, cells := 0, slots := 0, locals := 74 } D TB cy L τ E [.ref a0] (inW [(11, 0), (63, 0), (64, 0), (65, 0), (66, 0), (67, 0), (68, 0), (69, 0), (70, 0), (71, 0), (62, 0)]) (fun r E' => (∀ k : Nat, k ∉ ([3, 4, 6, 8] : List Nat) → fi E' a0 k = fi E a0 k)) := by
  intro sz
  refine sta (cc := cX10_check) (maxL := 2) hI (by decide) rfl (Nat.le_of_ble_eq_true rfl) (fun p e s m args below meth c ls hsz Z S0 hl => ?_)
  have hx := Z.1.1
  have hb := Z.1.2.1
  have hts := Z.1.2.2.2.2
  have F0_ : Fr L τ (inW [(11, 0), (63, 0), (64, 0), (65, 0), (66, 0), (67, 0), (68, 0), (69, 0), (70, 0), (71, 0), (62, 0)]) E E := Fr.refl
  have hl : lv_has ls 2 [(0, .ref a0)] := hl
  generalize hQ : MQ below _ args s 0 0 _ = QQ
  have J44 : ∀ (n : Nat) (x1_44 : Int32) (E_44 : Ec) (H_44 : Heap) (k_44 : List Loc) (l_44 : Array Slot), Now D TB cy (va_A (va_pl L E) sz) s L τ E_44 H_44 k_44 → Fr L τ (inW [(11, 0), (63, 0), (64, 0), (65, 0), (66, 0), (67, 0), (68, 0), (69, 0), (70, 0), (71, 0), (62, 0)]) E E_44 → (0 ≤ x1_44.toInt) → (x1_44.toInt ≤ 264) → (∀ k : Nat, k ∉ ([3, 4, 6, 8] : List Nat) → fi E_44 a0 k = fi E a0 k) → (264 - x1_44.toInt).toNat < n → lv_has l_44 2 [(0, .ref a0), (1, .int x1_44)] → W p l e { frames := 3, cells := 0, slots := 0, locals := 74 } s m args below meth c H_44 k_44 0 0 QQ (F0 m 44 l_44 []) := by
    intro n
    induction n with
    | zero => intro x1_44 E_44 H_44 k_44 l_44 S_44 F_44 z1 z2 z3 hm hl_44; exact absurd hm (Nat.not_lt_zero _)
    | succ n ih =>
      intro x1_44 E_44 H_44 k_44 l_44 S_44 F_44 z1 z2 z3 hm hl_44
      have ih_44 := ih
      refine lv_iload_n hx hb dX10_check_44 rfl (lv_at hl_44 1 rfl) ?_
      refine lv_aload_n hx hb dX10_check_45 rfl (lv_at hl_44 0 rfl) ?_
      refine tr_geti Z.1 Z.2.2.2.1 S_44.1 S_44.2 ha0 ta0 rfl rfl (fun _ h => List.mem_cons_of_mem _ (List.mem_append_right _ h)) 47 (by decide) rfl (hts _ (List.mem_of_getElem? (i := 2) rfl)) dX10_check_46 (fun v4 ev4 lv4 uv4 => ?_)
      refine lv_icmp_ge (tgt := 74) hx hb dX10_check_49 (by decide) (fun c5 => ?_) (fun c5 => ?_)
      · skip
        have tc5 := nu_le c5
        obtain ⟨v6, ev6, tv6⟩ : ∃ v : Int32, (Int8.ofInt (-2)).toInt32 = v ∧ v.toInt = -2 := ⟨_, rfl, by decide +kernel⟩
        refine lv_bipush hx hb dX10_check_74 ev6 ?_
        rw [← hQ]
        exact en_i Z S_44 F_44 (fun k hk => (z3 k hk)) dX10_check_76
      · skip
        have tc5 := nu_nle c5
        refine lv_aload_n hx hb dX10_check_52 rfl (lv_at hl_44 0 rfl) ?_
        refine tr_getr Z.1 Z.2.2.2.1 S_44.1 S_44.2 ha0 ta0 rfl rfl (fun _ h => List.mem_cons_of_mem _ (List.mem_append_right _ h)) 46 (by decide) rfl (hts _ (List.mem_of_getElem? (i := 4) rfl)) dX10_check_53 (fun q7 eq7 hq7 tq7 => ?_)
        have tq7 : τ q7 = (86, 0) := tq7
        refine lv_iload_n hx hb dX10_check_56 rfl (lv_at hl_44 1 rfl) ?_
        refine tr_iald Z.1 Z.2.2.2.1 S_44.1 S_44.2 hq7 tq7 rfl (by omega) (by omega) dX10_check_57 (fun v8 ev8 lv8 uv8 => ?_)
        refine lv_aload_n hx hb dX10_check_58 rfl (lv_at hl_44 0 rfl) ?_
        refine lv_iload_n hx hb dX10_check_59 rfl (lv_at hl_44 1 rfl) ?_
        refine tc_vi Z.1 Z.2.2.2.1 Z.2.2.2.2.1 Z.2.2.2.2.2 S_44.1 S_44.2 ha0 ta0 rfl rfl (k_X10_numberOf l D cy S_44.2 ha0 ta0 x1_44 (by omega) (by omega)) (cwV 1 hts gX10_check_X10_numberOf rfl rfl rfl (by decide +kernel) ⟨Nat.le_of_ble_eq_true rfl, Nat.le_of_ble_eq_true rfl⟩) rfl hl_44.1 rfl (Nat.le_of_ble_eq_true rfl) dX10_check_60 ⟨Nat.zero_le _, Nat.zero_le _⟩ (fun v12 E9 H10 k11 W9 I9 G9 p9 => ?_)
        have q9 := p9
        have q9 := q9.symm
        subst q9
        have S9 : Now D TB cy (va_A (va_pl L E) sz) s L τ E_44 H10 k11 := ⟨W9, I9⟩
        refine lv_icmp_eq (tgt := 68) hx hb dX10_check_63 (by decide) (fun c13 => ?_) (fun c13 => ?_)
        · skip
          have tc13 := nu_eq c13
          obtain ⟨v14, ev14⟩ : ∃ y : Int32, x1_44 + Int32.ofInt (1) = y := ⟨_, rfl⟩
          have tv14 : v14.toInt = x1_44.toInt + (1) := by rw [← ev14]; exact (fb_addI (by rw [show (Int32.ofInt (1)).toInt = 1 from by decide +kernel]; omega) (by rw [show (Int32.ofInt (1)).toInt = 1 from by decide +kernel]; omega)).trans (by rw [show (Int32.ofInt (1)).toInt = 1 from by decide +kernel])
          refine lv_iinc (v := v14) (lv' := [(1, .int v14), (0, .ref a0)]) hx hb dX10_check_68 hl_44 (k := 1) rfl ev14 (by decide) rfl (fun l15 hl16 => ?_)
          refine lv_goto (tgt := 44) hx hb dX10_check_71 (by decide) ?_
          exact ih_44 v14 E_44 H10 k11 l15 S9 F_44 (by omega) (by omega) (fun k hk => (z3 k hk)) (by omega) (lv_sub hl16 [1, 0] rfl)
        · skip
          have tc13 := nu_ne c13
          refine lv_iload_n hx hb dX10_check_66 rfl (lv_at hl_44 1 rfl) ?_
          rw [← hQ]
          exact en_i Z S9 F_44 (fun k hk => (z3 k hk)) dX10_check_67
  refine lv_aload_n hx hb dX10_check_0 rfl (lv_at hl 0 rfl) ?_
  obtain ⟨v17, ev17, tv17⟩ : ∃ v : Int32, Int32.ofInt (0) = v ∧ v.toInt = 0 := ⟨_, rfl, by decide +kernel⟩
  refine lv_iconst hx hb dX10_check_1 ev17 ?_
  refine tr_puti Z.1 Z.2.2.2.1 S0.1 S0.2 ha0 ta0 rfl rfl (fun _ h => List.mem_cons_of_mem _ (List.mem_append_right _ h)) tyX10_ok nmX10 4 (by decide) rfl rfl rfl (hts _ (List.mem_of_getElem? (i := 1) rfl)) dX10_check_2 (by omega) (by omega) (fun E18 H19 k20 W18 I18 P18 => ?_)
  have S18 : Now D TB cy (va_A (va_pl L E) sz) s L τ E18 H19 k20 := ⟨W18, I18⟩
  have F18 : Fr L τ (inW [(11, 0), (63, 0), (64, 0), (65, 0), (66, 0), (67, 0), (68, 0), (69, 0), (70, 0), (71, 0), (62, 0)]) E E18 := Fr.put F0_ P18 ta0 rfl
  refine lv_aload_n hx hb dX10_check_5 rfl (lv_at hl 0 rfl) ?_
  refine tr_geti Z.1 Z.2.2.2.1 S18.1 S18.2 ha0 ta0 rfl rfl (fun _ h => List.mem_cons_of_mem _ (List.mem_append_right _ h)) 47 (by decide) rfl (hts _ (List.mem_of_getElem? (i := 2) rfl)) dX10_check_6 (fun v21 ev21 lv21 uv21 => ?_)
  refine lv_if_ne (tgt := 18) hx hb dX10_check_9 (by decide) (fun c22 => ?_) (fun c22 => ?_)
  · skip
    have tc22 := nu_ne c22
    have uc22 : (0 : Int32).toInt = 0 := rfl
    refine lv_aload_n hx hb dX10_check_18 rfl (lv_at hl 0 rfl) ?_
    refine tc_vv Z.1 Z.2.2.2.1 Z.2.2.2.2.1 Z.2.2.2.2.2 S18.1 S18.2 ha0 ta0 rfl rfl (k_X10_good l D cy S18.2 ha0 ta0) (cwV 0 hts gX10_check_X10_good rfl rfl rfl (by decide +kernel) ⟨Nat.le_of_ble_eq_true rfl, Nat.le_of_ble_eq_true rfl⟩) rfl hl.1 rfl (Nat.le_of_ble_eq_true rfl) dX10_check_19 ⟨Nat.zero_le _, Nat.zero_le _⟩ (fun E23 H24 k25 W23 I23 G23 p23 => ?_)
    have p23_0 := p23
    have S23 : Now D TB cy (va_A (va_pl L E) sz) s L τ E23 H24 k25 := ⟨W23, I23⟩
    have F23 : Fr L τ (inW [(11, 0), (63, 0), (64, 0), (65, 0), (66, 0), (67, 0), (68, 0), (69, 0), (70, 0), (71, 0), (62, 0)]) E E23 := F18.trans (G23.mono (inW_mono (by decide)))
    refine lv_aload_n hx hb dX10_check_22 rfl (lv_at hl 0 rfl) ?_
    refine tc_vv Z.1 Z.2.2.2.1 Z.2.2.2.2.1 Z.2.2.2.2.2 S23.1 S23.2 ha0 ta0 rfl rfl (k_X10_asTold l D cy S23.2 ha0 ta0) (cwV 0 hts gX10_check_X10_asTold rfl rfl rfl (by decide +kernel) ⟨Nat.le_of_ble_eq_true rfl, Nat.le_of_ble_eq_true rfl⟩) rfl hl.1 rfl (Nat.le_of_ble_eq_true rfl) dX10_check_23 ⟨Nat.zero_le _, Nat.zero_le _⟩ (fun E27 H28 k29 W27 I27 G27 p27 => ?_)
    have p27_0 := p27
    have S27 : Now D TB cy (va_A (va_pl L E) sz) s L τ E27 H28 k29 := ⟨W27, I27⟩
    have F27 : Fr L τ (inW [(11, 0), (63, 0), (64, 0), (65, 0), (66, 0), (67, 0), (68, 0), (69, 0), (70, 0), (71, 0), (62, 0)]) E E27 := F23.trans (G27.mono (inW_mono (by decide)))
    refine lv_aload_n hx hb dX10_check_26 rfl (lv_at hl 0 rfl) ?_
    refine tr_geti Z.1 Z.2.2.2.1 S27.1 S27.2 ha0 ta0 rfl rfl (fun _ h => List.mem_cons_of_mem _ (List.mem_append_right _ h)) 47 (by decide) rfl (hts _ (List.mem_of_getElem? (i := 2) rfl)) dX10_check_27 (fun v31 ev31 lv31 uv31 => ?_)
    have wv31 : v31 = v21 := ev31.symm.trans ((p27_0 47 (by decide)).trans ((p23_0 47 (by decide)).trans ev21))
    have xv31 : v31.toInt = v21.toInt := by rw [wv31]
    obtain ⟨v32, ev32, tv32⟩ : ∃ v : Int32, Int32.ofInt (4) = v ∧ v.toInt = 4 := ⟨_, rfl, by decide +kernel⟩
    refine lv_iconst hx hb dX10_check_30 ev32 ?_
    refine lv_aload_n hx hb dX10_check_31 rfl (lv_at hl 0 rfl) ?_
    refine tr_geti Z.1 Z.2.2.2.1 S27.1 S27.2 ha0 ta0 rfl rfl (fun _ h => List.mem_cons_of_mem _ (List.mem_append_right _ h)) 8 (by decide) rfl (hts _ (List.mem_of_getElem? (i := 3) rfl)) dX10_check_32 (fun v33 ev33 lv33 uv33 => ?_)
    refine lv_imul hx hb dX10_check_35 ?_
    refine lv_topi (fun v34 ev34 => ?_)
    have tv34 := nu_mulc' (4) ev34 (by omega) (by omega) (by omega)
    refine lv_icmp_eq (tgt := 42) hx hb dX10_check_36 (by decide) (fun c35 => ?_) (fun c35 => ?_)
    · skip
      have tc35 := nu_eq c35
      obtain ⟨v36, ev36, tv36⟩ : ∃ v : Int32, Int32.ofInt (0) = v ∧ v.toInt = 0 := ⟨_, rfl, by decide +kernel⟩
      refine lv_iconst hx hb dX10_check_42 ev36 ?_
      refine lv_istore_n (lv' := [(1, .int v36), (0, .ref a0)]) hx hb dX10_check_43 rfl hl (by decide) rfl (fun l37 hl38 => ?_)
      exact J44 _ v36 E27 H28 k29 l37 S27 F27 (by omega) (by omega) (fun k hk => ((p27_0 k (fw_sub (by decide) hk)).trans ((p23_0 k (fw_sub (by decide) hk)).trans ((fi_put P18 (Or.inr (fw_ne (by decide) hk))).trans ((fun k hk => rfl) k hk))))) (Nat.lt_succ_self _) (lv_sub hl38 [1, 0] rfl)
    · skip
      have tc35 := nu_ne c35
      obtain ⟨v39, ev39, tv39⟩ : ∃ v : Int32, (Int8.ofInt (-3)).toInt32 = v ∧ v.toInt = -3 := ⟨_, rfl, by decide +kernel⟩
      refine lv_bipush hx hb dX10_check_39 ev39 ?_
      rw [← hQ]
      exact en_i Z S27 F27 (fun k hk => ((p27_0 k (fw_sub (by decide) hk)).trans ((p23_0 k (fw_sub (by decide) hk)).trans ((fi_put P18 (Or.inr (fw_ne (by decide) hk))).trans ((fun k hk => rfl) k hk))))) dX10_check_41
  · skip
    have tc22 := nu_eq c22
    have uc22 : (0 : Int32).toInt = 0 := rfl
    refine lv_aload_n hx hb dX10_check_12 rfl (lv_at hl 0 rfl) ?_
    obtain ⟨v40, ev40, tv40⟩ : ∃ v : Int32, Int32.ofInt (5) = v ∧ v.toInt = 5 := ⟨_, rfl, by decide +kernel⟩
    refine lv_iconst hx hb dX10_check_13 ev40 ?_
    refine tc_vi Z.1 Z.2.2.2.1 Z.2.2.2.2.1 Z.2.2.2.2.2 S18.1 S18.2 ha0 ta0 rfl rfl (k_X10_no l D cy S18.2 ha0 ta0 v40) (cwV 1 hts gX10_check_X10_no rfl rfl rfl (by decide +kernel) ⟨Nat.le_of_ble_eq_true rfl, Nat.le_of_ble_eq_true rfl⟩) rfl hl.1 rfl (Nat.le_of_ble_eq_true rfl) dX10_check_14 ⟨Nat.zero_le _, Nat.zero_le _⟩ (fun v44 E41 H42 k43 W41 I41 G41 p41 => ?_)
    obtain ⟨p41_0, p41_1, p41_2⟩ := p41
    have S41 : Now D TB cy (va_A (va_pl L E) sz) s L τ E41 H42 k43 := ⟨W41, I41⟩
    have F41 : Fr L τ (inW [(11, 0), (63, 0), (64, 0), (65, 0), (66, 0), (67, 0), (68, 0), (69, 0), (70, 0), (71, 0), (62, 0)]) E E41 := F18.trans (G41.mono (inW_mono (by decide)))
    rw [← hQ]
    exact en_i Z S41 F41 (fun k hk => ((p41_2 k (fw_sub (by decide) hk)).trans ((fi_put P18 (Or.inr (fw_ne (by decide) hk))).trans ((fun k hk => rfl) k hk)))) dX10_check_17

theorem dX10_packed_0 : decode cX10_packed 0 = .ok (.lconst 0, 1) := by decide +kernel
theorem dX10_packed_1 : decode cX10_packed 1 = .ok (.lstore 7, 2) := by decide +kernel
theorem dX10_packed_3 : decode cX10_packed 3 = .ok (.iload_n 1, 1) := by decide +kernel
theorem dX10_packed_4 : decode cX10_packed 4 = .ok (.ifCond .le 18, 3) := by decide +kernel
theorem dX10_packed_7 : decode cX10_packed 7 = .ok (.lload 7, 2) := by decide +kernel
theorem dX10_packed_9 : decode cX10_packed 9 = .ok (.ldc2_w 166, 3) := by decide +kernel
theorem dX10_packed_12 : decode cX10_packed 12 = .ok (.lmul, 1) := by decide +kernel
theorem dX10_packed_13 : decode cX10_packed 13 = .ok (.iload_n 1, 1) := by decide +kernel
theorem dX10_packed_14 : decode cX10_packed 14 = .ok (.i2l, 1) := by decide +kernel
theorem dX10_packed_15 : decode cX10_packed 15 = .ok (.ladd, 1) := by decide +kernel
theorem dX10_packed_16 : decode cX10_packed 16 = .ok (.ldc2_w 168, 3) := by decide +kernel
theorem dX10_packed_19 : decode cX10_packed 19 = .ok (.lsub, 1) := by decide +kernel
theorem dX10_packed_20 : decode cX10_packed 20 = .ok (.lstore 7, 2) := by decide +kernel
theorem dX10_packed_22 : decode cX10_packed 22 = .ok (.iload_n 2, 1) := by decide +kernel
theorem dX10_packed_23 : decode cX10_packed 23 = .ok (.ifCond .le 18, 3) := by decide +kernel
theorem dX10_packed_26 : decode cX10_packed 26 = .ok (.lload 7, 2) := by decide +kernel
theorem dX10_packed_28 : decode cX10_packed 28 = .ok (.ldc2_w 166, 3) := by decide +kernel
theorem dX10_packed_31 : decode cX10_packed 31 = .ok (.lmul, 1) := by decide +kernel
theorem dX10_packed_32 : decode cX10_packed 32 = .ok (.iload_n 2, 1) := by decide +kernel
theorem dX10_packed_33 : decode cX10_packed 33 = .ok (.i2l, 1) := by decide +kernel
theorem dX10_packed_34 : decode cX10_packed 34 = .ok (.ladd, 1) := by decide +kernel
theorem dX10_packed_35 : decode cX10_packed 35 = .ok (.ldc2_w 168, 3) := by decide +kernel
theorem dX10_packed_38 : decode cX10_packed 38 = .ok (.lsub, 1) := by decide +kernel
theorem dX10_packed_39 : decode cX10_packed 39 = .ok (.lstore 7, 2) := by decide +kernel
theorem dX10_packed_41 : decode cX10_packed 41 = .ok (.iload_n 3, 1) := by decide +kernel
theorem dX10_packed_42 : decode cX10_packed 42 = .ok (.ifCond .le 18, 3) := by decide +kernel
theorem dX10_packed_45 : decode cX10_packed 45 = .ok (.lload 7, 2) := by decide +kernel
theorem dX10_packed_47 : decode cX10_packed 47 = .ok (.ldc2_w 166, 3) := by decide +kernel
theorem dX10_packed_50 : decode cX10_packed 50 = .ok (.lmul, 1) := by decide +kernel
theorem dX10_packed_51 : decode cX10_packed 51 = .ok (.iload_n 3, 1) := by decide +kernel
theorem dX10_packed_52 : decode cX10_packed 52 = .ok (.i2l, 1) := by decide +kernel
theorem dX10_packed_53 : decode cX10_packed 53 = .ok (.ladd, 1) := by decide +kernel
theorem dX10_packed_54 : decode cX10_packed 54 = .ok (.ldc2_w 168, 3) := by decide +kernel
theorem dX10_packed_57 : decode cX10_packed 57 = .ok (.lsub, 1) := by decide +kernel
theorem dX10_packed_58 : decode cX10_packed 58 = .ok (.lstore 7, 2) := by decide +kernel
theorem dX10_packed_60 : decode cX10_packed 60 = .ok (.iload 4, 2) := by decide +kernel
theorem dX10_packed_62 : decode cX10_packed 62 = .ok (.ifCond .le 19, 3) := by decide +kernel
theorem dX10_packed_65 : decode cX10_packed 65 = .ok (.lload 7, 2) := by decide +kernel
theorem dX10_packed_67 : decode cX10_packed 67 = .ok (.ldc2_w 166, 3) := by decide +kernel
theorem dX10_packed_70 : decode cX10_packed 70 = .ok (.lmul, 1) := by decide +kernel
theorem dX10_packed_71 : decode cX10_packed 71 = .ok (.iload 4, 2) := by decide +kernel
theorem dX10_packed_73 : decode cX10_packed 73 = .ok (.i2l, 1) := by decide +kernel
theorem dX10_packed_74 : decode cX10_packed 74 = .ok (.ladd, 1) := by decide +kernel
theorem dX10_packed_75 : decode cX10_packed 75 = .ok (.ldc2_w 168, 3) := by decide +kernel
theorem dX10_packed_78 : decode cX10_packed 78 = .ok (.lsub, 1) := by decide +kernel
theorem dX10_packed_79 : decode cX10_packed 79 = .ok (.lstore 7, 2) := by decide +kernel
theorem dX10_packed_81 : decode cX10_packed 81 = .ok (.iload 5, 2) := by decide +kernel
theorem dX10_packed_83 : decode cX10_packed 83 = .ok (.ifCond .le 19, 3) := by decide +kernel
theorem dX10_packed_86 : decode cX10_packed 86 = .ok (.lload 7, 2) := by decide +kernel
theorem dX10_packed_88 : decode cX10_packed 88 = .ok (.ldc2_w 166, 3) := by decide +kernel
theorem dX10_packed_91 : decode cX10_packed 91 = .ok (.lmul, 1) := by decide +kernel
theorem dX10_packed_92 : decode cX10_packed 92 = .ok (.iload 5, 2) := by decide +kernel
theorem dX10_packed_94 : decode cX10_packed 94 = .ok (.i2l, 1) := by decide +kernel
theorem dX10_packed_95 : decode cX10_packed 95 = .ok (.ladd, 1) := by decide +kernel
theorem dX10_packed_96 : decode cX10_packed 96 = .ok (.ldc2_w 168, 3) := by decide +kernel
theorem dX10_packed_99 : decode cX10_packed 99 = .ok (.lsub, 1) := by decide +kernel
theorem dX10_packed_100 : decode cX10_packed 100 = .ok (.lstore 7, 2) := by decide +kernel
theorem dX10_packed_102 : decode cX10_packed 102 = .ok (.iload 6, 2) := by decide +kernel
theorem dX10_packed_104 : decode cX10_packed 104 = .ok (.ifCond .le 19, 3) := by decide +kernel
theorem dX10_packed_107 : decode cX10_packed 107 = .ok (.lload 7, 2) := by decide +kernel
theorem dX10_packed_109 : decode cX10_packed 109 = .ok (.ldc2_w 166, 3) := by decide +kernel
theorem dX10_packed_112 : decode cX10_packed 112 = .ok (.lmul, 1) := by decide +kernel
theorem dX10_packed_113 : decode cX10_packed 113 = .ok (.iload 6, 2) := by decide +kernel
theorem dX10_packed_115 : decode cX10_packed 115 = .ok (.i2l, 1) := by decide +kernel
theorem dX10_packed_116 : decode cX10_packed 116 = .ok (.ladd, 1) := by decide +kernel
theorem dX10_packed_117 : decode cX10_packed 117 = .ok (.ldc2_w 168, 3) := by decide +kernel
theorem dX10_packed_120 : decode cX10_packed 120 = .ok (.lsub, 1) := by decide +kernel
theorem dX10_packed_121 : decode cX10_packed 121 = .ok (.lstore 7, 2) := by decide +kernel
theorem dX10_packed_123 : decode cX10_packed 123 = .ok (.lload 7, 2) := by decide +kernel
theorem dX10_packed_125 : decode cX10_packed 125 = .ok (.lreturn, 1) := by decide +kernel
set_option maxHeartbeats 4000000 in
set_option maxRecDepth 100000 in
theorem k_X10_packed (l : Launch) (D : va_G) (cy : Nat → ClassId) {L : List Nat} {τ : Nat → Ro} {E : Ec} (hI : Inv TB cy L τ E) {a0 : Nat} (ha0 : a0 ∈ L) (ta0 : τ a0 = (11, 0)) (a1 : Int32) (a2 : Int32) (a3 : Int32) (a4 : Int32) (a5 : Int32) (a6 : Int32) : CtL l yX10_packed wsX10_packed { frames := 0, cells := 0, slots := 0, locals := 0 } D TB cy L τ E [.ref a0, .int a1, .int a2, .int a3, .int a4, .int a5, .int a6] (inW []) (fun r E' => E' = E) := by
  intro sz
  refine sta (cc := cX10_packed) (maxL := 9) hI (by decide) rfl (Nat.le_of_ble_eq_true rfl) (fun p e s m args below meth c ls hsz Z S0 hl => ?_)
  have hx := Z.1.1
  have hb := Z.1.2.1
  have hts := Z.1.2.2.2.2
  have F0_ : Fr L τ (inW []) E E := Fr.refl
  have hl : lv_has ls 9 [(0, .ref a0), (1, .int a1), (2, .int a2), (3, .int a3), (4, .int a4), (5, .int a5), (6, .int a6)] := hl
  generalize hQ : MQ below _ args s 0 0 _ = QQ
  have J102 : ∀ (x7_102 : Int64) (H_102 : Heap) (k_102 : List Loc) (l_102 : Array Slot), Now D TB cy (va_A (va_pl L E) sz) s L τ E H_102 k_102 → lv_has l_102 9 [(6, .int a6), (7, .long x7_102)] → W p l e { frames := 0, cells := 0, slots := 0, locals := 0 } s m args below meth c H_102 k_102 0 0 QQ (F0 m 102 l_102 []) := by
    intro x7_102 H_102 k_102 l_102 S_102  hl_102
    refine lv_iload hx hb dX10_packed_102 (lv_at hl_102 0 rfl) ?_
    refine lv_if_le (tgt := 123) hx hb dX10_packed_104 (by decide) (fun c1 => ?_) (fun c1 => ?_)
    · skip
      have tc1 := nu_le c1
      have uc1 : (0 : Int32).toInt = 0 := rfl
      refine lv_lload hx hb dX10_packed_123 (lv_at hl_102 1 rfl) ?_
      rw [← hQ]
      exact en_l Z S_102 F0_ rfl dX10_packed_125
    · skip
      have tc1 := nu_nle c1
      have uc1 : (0 : Int32).toInt = 0 := rfl
      refine lv_lload hx hb dX10_packed_107 (lv_at hl_102 1 rfl) ?_
      refine lv_ldc2 (v := (32)) hx hb Z.1.2.2.2.1 (hts _ (List.mem_of_getElem? (i := 1) rfl)) dX10_packed_109 ?_
      refine lv_topl (fun w2 ew2 => ?_)
      have tw2 : w2.toInt = 32 := by rw [ew2]; decide +kernel
      refine lv_lmul hx hb dX10_packed_112 ?_
      refine lv_topl (fun w3 ew3 => ?_)
      refine lv_iload hx hb dX10_packed_113 (lv_at hl_102 0 rfl) ?_
      obtain ⟨w4, ew4⟩ : ∃ y : Int64, a6.toInt64 = y := ⟨_, rfl⟩
      refine lv_i2l hx hb dX10_packed_115 ew4 ?_
      refine lv_ladd hx hb dX10_packed_116 ?_
      refine lv_topl (fun w5 ew5 => ?_)
      refine lv_ldc2 (v := (96)) hx hb Z.1.2.2.2.1 (hts _ (List.mem_of_getElem? (i := 2) rfl)) dX10_packed_117 ?_
      refine lv_topl (fun w6 ew6 => ?_)
      have tw6 : w6.toInt = 96 := by rw [ew6]; decide +kernel
      refine lv_lsub hx hb dX10_packed_120 ?_
      refine lv_topl (fun w7 ew7 => ?_)
      refine lv_lstore (lv' := [(7, .long w7), (6, .int a6)]) hx hb dX10_packed_121 hl_102 (by decide) rfl (fun l8 hl9 => ?_)
      refine lv_lload hx hb dX10_packed_123 (lv_at hl9 0 rfl) ?_
      rw [← hQ]
      exact en_l Z S_102 F0_ rfl dX10_packed_125
  have J81 : ∀ (x7_81 : Int64) (H_81 : Heap) (k_81 : List Loc) (l_81 : Array Slot), Now D TB cy (va_A (va_pl L E) sz) s L τ E H_81 k_81 → lv_has l_81 9 [(5, .int a5), (6, .int a6), (7, .long x7_81)] → W p l e { frames := 0, cells := 0, slots := 0, locals := 0 } s m args below meth c H_81 k_81 0 0 QQ (F0 m 81 l_81 []) := by
    intro x7_81 H_81 k_81 l_81 S_81  hl_81
    refine lv_iload hx hb dX10_packed_81 (lv_at hl_81 0 rfl) ?_
    refine lv_if_le (tgt := 102) hx hb dX10_packed_83 (by decide) (fun c10 => ?_) (fun c10 => ?_)
    · skip
      have tc10 := nu_le c10
      have uc10 : (0 : Int32).toInt = 0 := rfl
      exact J102 x7_81 H_81 k_81 l_81 S_81 (lv_sub hl_81 [1, 2] rfl)
    · skip
      have tc10 := nu_nle c10
      have uc10 : (0 : Int32).toInt = 0 := rfl
      refine lv_lload hx hb dX10_packed_86 (lv_at hl_81 2 rfl) ?_
      refine lv_ldc2 (v := (32)) hx hb Z.1.2.2.2.1 (hts _ (List.mem_of_getElem? (i := 1) rfl)) dX10_packed_88 ?_
      refine lv_topl (fun w11 ew11 => ?_)
      have tw11 : w11.toInt = 32 := by rw [ew11]; decide +kernel
      refine lv_lmul hx hb dX10_packed_91 ?_
      refine lv_topl (fun w12 ew12 => ?_)
      refine lv_iload hx hb dX10_packed_92 (lv_at hl_81 0 rfl) ?_
      obtain ⟨w13, ew13⟩ : ∃ y : Int64, a5.toInt64 = y := ⟨_, rfl⟩
      refine lv_i2l hx hb dX10_packed_94 ew13 ?_
      refine lv_ladd hx hb dX10_packed_95 ?_
      refine lv_topl (fun w14 ew14 => ?_)
      refine lv_ldc2 (v := (96)) hx hb Z.1.2.2.2.1 (hts _ (List.mem_of_getElem? (i := 2) rfl)) dX10_packed_96 ?_
      refine lv_topl (fun w15 ew15 => ?_)
      have tw15 : w15.toInt = 96 := by rw [ew15]; decide +kernel
      refine lv_lsub hx hb dX10_packed_99 ?_
      refine lv_topl (fun w16 ew16 => ?_)
      refine lv_lstore (lv' := [(7, .long w16), (5, .int a5), (6, .int a6)]) hx hb dX10_packed_100 hl_81 (by decide) rfl (fun l17 hl18 => ?_)
      exact J102 w16 H_81 k_81 l17 S_81 (lv_sub hl18 [2, 0] rfl)
  have J60 : ∀ (x7_60 : Int64) (H_60 : Heap) (k_60 : List Loc) (l_60 : Array Slot), Now D TB cy (va_A (va_pl L E) sz) s L τ E H_60 k_60 → lv_has l_60 9 [(4, .int a4), (5, .int a5), (6, .int a6), (7, .long x7_60)] → W p l e { frames := 0, cells := 0, slots := 0, locals := 0 } s m args below meth c H_60 k_60 0 0 QQ (F0 m 60 l_60 []) := by
    intro x7_60 H_60 k_60 l_60 S_60  hl_60
    refine lv_iload hx hb dX10_packed_60 (lv_at hl_60 0 rfl) ?_
    refine lv_if_le (tgt := 81) hx hb dX10_packed_62 (by decide) (fun c19 => ?_) (fun c19 => ?_)
    · skip
      have tc19 := nu_le c19
      have uc19 : (0 : Int32).toInt = 0 := rfl
      exact J81 x7_60 H_60 k_60 l_60 S_60 (lv_sub hl_60 [1, 2, 3] rfl)
    · skip
      have tc19 := nu_nle c19
      have uc19 : (0 : Int32).toInt = 0 := rfl
      refine lv_lload hx hb dX10_packed_65 (lv_at hl_60 3 rfl) ?_
      refine lv_ldc2 (v := (32)) hx hb Z.1.2.2.2.1 (hts _ (List.mem_of_getElem? (i := 1) rfl)) dX10_packed_67 ?_
      refine lv_topl (fun w20 ew20 => ?_)
      have tw20 : w20.toInt = 32 := by rw [ew20]; decide +kernel
      refine lv_lmul hx hb dX10_packed_70 ?_
      refine lv_topl (fun w21 ew21 => ?_)
      refine lv_iload hx hb dX10_packed_71 (lv_at hl_60 0 rfl) ?_
      obtain ⟨w22, ew22⟩ : ∃ y : Int64, a4.toInt64 = y := ⟨_, rfl⟩
      refine lv_i2l hx hb dX10_packed_73 ew22 ?_
      refine lv_ladd hx hb dX10_packed_74 ?_
      refine lv_topl (fun w23 ew23 => ?_)
      refine lv_ldc2 (v := (96)) hx hb Z.1.2.2.2.1 (hts _ (List.mem_of_getElem? (i := 2) rfl)) dX10_packed_75 ?_
      refine lv_topl (fun w24 ew24 => ?_)
      have tw24 : w24.toInt = 96 := by rw [ew24]; decide +kernel
      refine lv_lsub hx hb dX10_packed_78 ?_
      refine lv_topl (fun w25 ew25 => ?_)
      refine lv_lstore (lv' := [(7, .long w25), (4, .int a4), (5, .int a5), (6, .int a6)]) hx hb dX10_packed_79 hl_60 (by decide) rfl (fun l26 hl27 => ?_)
      exact J81 w25 H_60 k_60 l26 S_60 (lv_sub hl27 [2, 3, 0] rfl)
  have J41 : ∀ (x7_41 : Int64) (H_41 : Heap) (k_41 : List Loc) (l_41 : Array Slot), Now D TB cy (va_A (va_pl L E) sz) s L τ E H_41 k_41 → lv_has l_41 9 [(3, .int a3), (4, .int a4), (5, .int a5), (6, .int a6), (7, .long x7_41)] → W p l e { frames := 0, cells := 0, slots := 0, locals := 0 } s m args below meth c H_41 k_41 0 0 QQ (F0 m 41 l_41 []) := by
    intro x7_41 H_41 k_41 l_41 S_41  hl_41
    refine lv_iload_n hx hb dX10_packed_41 rfl (lv_at hl_41 0 rfl) ?_
    refine lv_if_le (tgt := 60) hx hb dX10_packed_42 (by decide) (fun c28 => ?_) (fun c28 => ?_)
    · skip
      have tc28 := nu_le c28
      have uc28 : (0 : Int32).toInt = 0 := rfl
      exact J60 x7_41 H_41 k_41 l_41 S_41 (lv_sub hl_41 [1, 2, 3, 4] rfl)
    · skip
      have tc28 := nu_nle c28
      have uc28 : (0 : Int32).toInt = 0 := rfl
      refine lv_lload hx hb dX10_packed_45 (lv_at hl_41 4 rfl) ?_
      refine lv_ldc2 (v := (32)) hx hb Z.1.2.2.2.1 (hts _ (List.mem_of_getElem? (i := 1) rfl)) dX10_packed_47 ?_
      refine lv_topl (fun w29 ew29 => ?_)
      have tw29 : w29.toInt = 32 := by rw [ew29]; decide +kernel
      refine lv_lmul hx hb dX10_packed_50 ?_
      refine lv_topl (fun w30 ew30 => ?_)
      refine lv_iload_n hx hb dX10_packed_51 rfl (lv_at hl_41 0 rfl) ?_
      obtain ⟨w31, ew31⟩ : ∃ y : Int64, a3.toInt64 = y := ⟨_, rfl⟩
      refine lv_i2l hx hb dX10_packed_52 ew31 ?_
      refine lv_ladd hx hb dX10_packed_53 ?_
      refine lv_topl (fun w32 ew32 => ?_)
      refine lv_ldc2 (v := (96)) hx hb Z.1.2.2.2.1 (hts _ (List.mem_of_getElem? (i := 2) rfl)) dX10_packed_54 ?_
      refine lv_topl (fun w33 ew33 => ?_)
      have tw33 : w33.toInt = 96 := by rw [ew33]; decide +kernel
      refine lv_lsub hx hb dX10_packed_57 ?_
      refine lv_topl (fun w34 ew34 => ?_)
      refine lv_lstore (lv' := [(7, .long w34), (3, .int a3), (4, .int a4), (5, .int a5), (6, .int a6)]) hx hb dX10_packed_58 hl_41 (by decide) rfl (fun l35 hl36 => ?_)
      exact J60 w34 H_41 k_41 l35 S_41 (lv_sub hl36 [2, 3, 4, 0] rfl)
  have J22 : ∀ (x7_22 : Int64) (H_22 : Heap) (k_22 : List Loc) (l_22 : Array Slot), Now D TB cy (va_A (va_pl L E) sz) s L τ E H_22 k_22 → lv_has l_22 9 [(2, .int a2), (3, .int a3), (4, .int a4), (5, .int a5), (6, .int a6), (7, .long x7_22)] → W p l e { frames := 0, cells := 0, slots := 0, locals := 0 } s m args below meth c H_22 k_22 0 0 QQ (F0 m 22 l_22 []) := by
    intro x7_22 H_22 k_22 l_22 S_22  hl_22
    refine lv_iload_n hx hb dX10_packed_22 rfl (lv_at hl_22 0 rfl) ?_
    refine lv_if_le (tgt := 41) hx hb dX10_packed_23 (by decide) (fun c37 => ?_) (fun c37 => ?_)
    · skip
      have tc37 := nu_le c37
      have uc37 : (0 : Int32).toInt = 0 := rfl
      exact J41 x7_22 H_22 k_22 l_22 S_22 (lv_sub hl_22 [1, 2, 3, 4, 5] rfl)
    · skip
      have tc37 := nu_nle c37
      have uc37 : (0 : Int32).toInt = 0 := rfl
      refine lv_lload hx hb dX10_packed_26 (lv_at hl_22 5 rfl) ?_
      refine lv_ldc2 (v := (32)) hx hb Z.1.2.2.2.1 (hts _ (List.mem_of_getElem? (i := 1) rfl)) dX10_packed_28 ?_
      refine lv_topl (fun w38 ew38 => ?_)
      have tw38 : w38.toInt = 32 := by rw [ew38]; decide +kernel
      refine lv_lmul hx hb dX10_packed_31 ?_
      refine lv_topl (fun w39 ew39 => ?_)
      refine lv_iload_n hx hb dX10_packed_32 rfl (lv_at hl_22 0 rfl) ?_
      obtain ⟨w40, ew40⟩ : ∃ y : Int64, a2.toInt64 = y := ⟨_, rfl⟩
      refine lv_i2l hx hb dX10_packed_33 ew40 ?_
      refine lv_ladd hx hb dX10_packed_34 ?_
      refine lv_topl (fun w41 ew41 => ?_)
      refine lv_ldc2 (v := (96)) hx hb Z.1.2.2.2.1 (hts _ (List.mem_of_getElem? (i := 2) rfl)) dX10_packed_35 ?_
      refine lv_topl (fun w42 ew42 => ?_)
      have tw42 : w42.toInt = 96 := by rw [ew42]; decide +kernel
      refine lv_lsub hx hb dX10_packed_38 ?_
      refine lv_topl (fun w43 ew43 => ?_)
      refine lv_lstore (lv' := [(7, .long w43), (2, .int a2), (3, .int a3), (4, .int a4), (5, .int a5), (6, .int a6)]) hx hb dX10_packed_39 hl_22 (by decide) rfl (fun l44 hl45 => ?_)
      exact J41 w43 H_22 k_22 l44 S_22 (lv_sub hl45 [2, 3, 4, 5, 0] rfl)
  refine lv_lconst (v := 0) hx hb dX10_packed_0 (by decide +kernel) ?_
  refine lv_topl (fun w46 ew46 => ?_)
  have tw46 : w46.toInt = 0 := by rw [ew46]; decide +kernel
  refine lv_lstore (lv' := [(7, .long w46), (0, .ref a0), (1, .int a1), (2, .int a2), (3, .int a3), (4, .int a4), (5, .int a5), (6, .int a6)]) hx hb dX10_packed_1 hl (by decide) rfl (fun l47 hl48 => ?_)
  refine lv_iload_n hx hb dX10_packed_3 rfl (lv_at hl48 2 rfl) ?_
  refine lv_if_le (tgt := 22) hx hb dX10_packed_4 (by decide) (fun c49 => ?_) (fun c49 => ?_)
  · skip
    have tc49 := nu_le c49
    have uc49 : (0 : Int32).toInt = 0 := rfl
    exact J22 w46 s.heap [] l47 S0 (lv_sub hl48 [3, 4, 5, 6, 7, 0] rfl)
  · skip
    have tc49 := nu_nle c49
    have uc49 : (0 : Int32).toInt = 0 := rfl
    refine lv_lload hx hb dX10_packed_7 (lv_at hl48 0 rfl) ?_
    refine lv_ldc2 (v := (32)) hx hb Z.1.2.2.2.1 (hts _ (List.mem_of_getElem? (i := 1) rfl)) dX10_packed_9 ?_
    refine lv_topl (fun w50 ew50 => ?_)
    have tw50 : w50.toInt = 32 := by rw [ew50]; decide +kernel
    refine lv_lmul hx hb dX10_packed_12 ?_
    refine lv_topl (fun w51 ew51 => ?_)
    refine lv_iload_n hx hb dX10_packed_13 rfl (lv_at hl48 2 rfl) ?_
    obtain ⟨w52, ew52⟩ : ∃ y : Int64, a1.toInt64 = y := ⟨_, rfl⟩
    refine lv_i2l hx hb dX10_packed_14 ew52 ?_
    refine lv_ladd hx hb dX10_packed_15 ?_
    refine lv_topl (fun w53 ew53 => ?_)
    refine lv_ldc2 (v := (96)) hx hb Z.1.2.2.2.1 (hts _ (List.mem_of_getElem? (i := 2) rfl)) dX10_packed_16 ?_
    refine lv_topl (fun w54 ew54 => ?_)
    have tw54 : w54.toInt = 96 := by rw [ew54]; decide +kernel
    refine lv_lsub hx hb dX10_packed_19 ?_
    refine lv_topl (fun w55 ew55 => ?_)
    refine lv_lstore (lv' := [(7, .long w55), (0, .ref a0), (1, .int a1), (2, .int a2), (3, .int a3), (4, .int a4), (5, .int a5), (6, .int a6)]) hx hb dX10_packed_20 hl48 (by decide) rfl (fun l56 hl57 => ?_)
    exact J22 w55 s.heap [] l56 S0 (lv_sub hl57 [3, 4, 5, 6, 7, 0] rfl)

theorem dX10_valueOf_0 : decode cX10_valueOf 0 = .ok (.iload_n 1, 1) := by decide +kernel
theorem dX10_valueOf_1 : decode cX10_valueOf 1 = .ok (.bipush 15, 2) := by decide +kernel
theorem dX10_valueOf_3 : decode cX10_valueOf 3 = .ok (.if_icmp .le 9, 3) := by decide +kernel
theorem dX10_valueOf_6 : decode cX10_valueOf 6 = .ok (.iload_n 2, 1) := by decide +kernel
theorem dX10_valueOf_7 : decode cX10_valueOf 7 = .ok (.iconst 1, 1) := by decide +kernel
theorem dX10_valueOf_8 : decode cX10_valueOf 8 = .ok (.iadd, 1) := by decide +kernel
theorem dX10_valueOf_9 : decode cX10_valueOf 9 = .ok (.goto 4, 3) := by decide +kernel
theorem dX10_valueOf_12 : decode cX10_valueOf 12 = .ok (.iload_n 2, 1) := by decide +kernel
theorem dX10_valueOf_13 : decode cX10_valueOf 13 = .ok (.istore_n 3, 1) := by decide +kernel
theorem dX10_valueOf_14 : decode cX10_valueOf 14 = .ok (.iload_n 1, 1) := by decide +kernel
theorem dX10_valueOf_15 : decode cX10_valueOf 15 = .ok (.bipush 16, 2) := by decide +kernel
theorem dX10_valueOf_17 : decode cX10_valueOf 17 = .ok (.irem, 1) := by decide +kernel
theorem dX10_valueOf_18 : decode cX10_valueOf 18 = .ok (.tableswitch 99 0 7 #[46, 53, 60, 67, 74, 81, 88, 92], 46) := by decide +kernel
theorem dX10_valueOf_64 : decode cX10_valueOf 64 = .ok (.aload_n 0, 1) := by decide +kernel
theorem dX10_valueOf_65 : decode cX10_valueOf 65 = .ok (.getfield 26, 3) := by decide +kernel
theorem dX10_valueOf_68 : decode cX10_valueOf 68 = .ok (.iload_n 3, 1) := by decide +kernel
theorem dX10_valueOf_69 : decode cX10_valueOf 69 = .ok (.iaload, 1) := by decide +kernel
theorem dX10_valueOf_70 : decode cX10_valueOf 70 = .ok (.ireturn, 1) := by decide +kernel
theorem dX10_valueOf_71 : decode cX10_valueOf 71 = .ok (.aload_n 0, 1) := by decide +kernel
theorem dX10_valueOf_72 : decode cX10_valueOf 72 = .ok (.getfield 32, 3) := by decide +kernel
theorem dX10_valueOf_75 : decode cX10_valueOf 75 = .ok (.iload_n 3, 1) := by decide +kernel
theorem dX10_valueOf_76 : decode cX10_valueOf 76 = .ok (.iaload, 1) := by decide +kernel
theorem dX10_valueOf_77 : decode cX10_valueOf 77 = .ok (.ireturn, 1) := by decide +kernel
theorem dX10_valueOf_78 : decode cX10_valueOf 78 = .ok (.aload_n 0, 1) := by decide +kernel
theorem dX10_valueOf_79 : decode cX10_valueOf 79 = .ok (.getfield 35, 3) := by decide +kernel
theorem dX10_valueOf_82 : decode cX10_valueOf 82 = .ok (.iload_n 3, 1) := by decide +kernel
theorem dX10_valueOf_83 : decode cX10_valueOf 83 = .ok (.iaload, 1) := by decide +kernel
theorem dX10_valueOf_84 : decode cX10_valueOf 84 = .ok (.ireturn, 1) := by decide +kernel
theorem dX10_valueOf_85 : decode cX10_valueOf 85 = .ok (.aload_n 0, 1) := by decide +kernel
theorem dX10_valueOf_86 : decode cX10_valueOf 86 = .ok (.getfield 41, 3) := by decide +kernel
theorem dX10_valueOf_89 : decode cX10_valueOf 89 = .ok (.iload_n 3, 1) := by decide +kernel
theorem dX10_valueOf_90 : decode cX10_valueOf 90 = .ok (.iaload, 1) := by decide +kernel
theorem dX10_valueOf_91 : decode cX10_valueOf 91 = .ok (.ireturn, 1) := by decide +kernel
theorem dX10_valueOf_92 : decode cX10_valueOf 92 = .ok (.aload_n 0, 1) := by decide +kernel
theorem dX10_valueOf_93 : decode cX10_valueOf 93 = .ok (.getfield 7, 3) := by decide +kernel
theorem dX10_valueOf_96 : decode cX10_valueOf 96 = .ok (.iconst 1, 1) := by decide +kernel
theorem dX10_valueOf_97 : decode cX10_valueOf 97 = .ok (.iaload, 1) := by decide +kernel
theorem dX10_valueOf_98 : decode cX10_valueOf 98 = .ok (.ireturn, 1) := by decide +kernel
theorem dX10_valueOf_99 : decode cX10_valueOf 99 = .ok (.aload_n 0, 1) := by decide +kernel
theorem dX10_valueOf_100 : decode cX10_valueOf 100 = .ok (.getfield 112, 3) := by decide +kernel
theorem dX10_valueOf_103 : decode cX10_valueOf 103 = .ok (.iconst 1, 1) := by decide +kernel
theorem dX10_valueOf_104 : decode cX10_valueOf 104 = .ok (.iadd, 1) := by decide +kernel
theorem dX10_valueOf_105 : decode cX10_valueOf 105 = .ok (.ireturn, 1) := by decide +kernel
theorem dX10_valueOf_106 : decode cX10_valueOf 106 = .ok (.iload_n 3, 1) := by decide +kernel
theorem dX10_valueOf_107 : decode cX10_valueOf 107 = .ok (.iconst 1, 1) := by decide +kernel
theorem dX10_valueOf_108 : decode cX10_valueOf 108 = .ok (.iadd, 1) := by decide +kernel
theorem dX10_valueOf_109 : decode cX10_valueOf 109 = .ok (.ireturn, 1) := by decide +kernel
theorem dX10_valueOf_110 : decode cX10_valueOf 110 = .ok (.aload_n 0, 1) := by decide +kernel
theorem dX10_valueOf_111 : decode cX10_valueOf 111 = .ok (.getfield 23, 3) := by decide +kernel
theorem dX10_valueOf_114 : decode cX10_valueOf 114 = .ok (.iload_n 3, 1) := by decide +kernel
theorem dX10_valueOf_115 : decode cX10_valueOf 115 = .ok (.iaload, 1) := by decide +kernel
theorem dX10_valueOf_116 : decode cX10_valueOf 116 = .ok (.ireturn, 1) := by decide +kernel
theorem dX10_valueOf_117 : decode cX10_valueOf 117 = .ok (.iconst 1, 1) := by decide +kernel
theorem dX10_valueOf_118 : decode cX10_valueOf 118 = .ok (.ireturn, 1) := by decide +kernel
set_option maxHeartbeats 4000000 in
set_option maxRecDepth 100000 in
theorem k_X10_valueOf (l : Launch) (D : va_G) (cy : Nat → ClassId) {L : List Nat} {τ : Nat → Ro} {E : Ec} (hI : Inv TB cy L τ E) {a0 : Nat} (ha0 : a0 ∈ L) (ta0 : τ a0 = (11, 0)) (a1 : Int32) (la1 : 0 ≤ a1.toInt) (ua1 : a1.toInt ≤ 24) (a2 : Int32) (la2 : 0 ≤ a2.toInt) (ua2 : a2.toInt ≤ 65) (hk : a2.toInt = 65 → a1.toInt ≤ 15) : CtI l yX10_valueOf wsX10_valueOf { frames := 0, cells := 0, slots := 0, locals := 0 } D TB cy L τ E [.ref a0, .int a1, .int a2] (inW []) (fun r E' => E' = E) := by
  intro sz
  refine sta (cc := cX10_valueOf) (maxL := 4) hI (by decide) rfl (Nat.le_of_ble_eq_true rfl) (fun p e s m args below meth c ls hsz Z S0 hl => ?_)
  have hx := Z.1.1
  have hb := Z.1.2.1
  have hts := Z.1.2.2.2.2
  have F0_ : Fr L τ (inW []) E E := Fr.refl
  have hl : lv_has ls 4 [(0, .ref a0), (1, .int a1), (2, .int a2)] := hl
  generalize hQ : MQ below _ args s 0 0 _ = QQ
  have J13 : ∀ (y0_13 : Int32) (H_13 : Heap) (k_13 : List Loc) (l_13 : Array Slot), Now D TB cy (va_A (va_pl L E) sz) s L τ E H_13 k_13 → (0 ≤ a1.toInt) → (a1.toInt ≤ 24) → (0 ≤ y0_13.toInt) → (y0_13.toInt ≤ 65) → lv_has l_13 4 [(0, .ref a0), (1, .int a1)] → W p l e { frames := 0, cells := 0, slots := 0, locals := 0 } s m args below meth c H_13 k_13 0 0 QQ (F0 m 13 l_13 [.int y0_13]) := by
    intro y0_13 H_13 k_13 l_13 S_13 z1 z2 z3 z4 hl_13
    refine lv_istore_n (lv' := [(3, .int y0_13), (0, .ref a0), (1, .int a1)]) hx hb dX10_valueOf_13 rfl hl_13 (by decide) rfl (fun l5 hl6 => ?_)
    refine lv_iload_n hx hb dX10_valueOf_14 rfl (lv_at hl6 2 rfl) ?_
    obtain ⟨v7, ev7, tv7⟩ : ∃ v : Int32, (Int8.ofInt (16)).toInt32 = v ∧ v.toInt = 16 := ⟨_, rfl, by decide +kernel⟩
    refine lv_bipush hx hb dX10_valueOf_15 ev7 ?_
    refine lv_irem hx hb dX10_valueOf_17 (fun q => by have := nu_eq0 q; omega) ?_
    refine lv_topi (fun v8 ev8 => ?_)
    have tv8 := nu_remc (16) ev8 (by omega) (by omega) (by omega)
    rcases (show (v8.toInt < 0 ∨ 7 < v8.toInt) ∨ v8.toInt = 0 ∨ v8.toInt = 1 ∨ v8.toInt = 2 ∨ v8.toInt = 3 ∨ v8.toInt = 4 ∨ v8.toInt = 5 ∨ v8.toInt = 6 ∨ v8.toInt = 7 from by omega) with c9 | c9 | c9 | c9 | c9 | c9 | c9 | c9 | c9
    · skip
      refine lv_tableOut (tgt := 117) hx hb dX10_valueOf_18 c9 (by decide) ?_
      obtain ⟨v10, ev10, tv10⟩ : ∃ v : Int32, Int32.ofInt (1) = v ∧ v.toInt = 1 := ⟨_, rfl, by decide +kernel⟩
      refine lv_iconst hx hb dX10_valueOf_117 ev10 ?_
      rw [← hQ]
      exact en_i Z S_13 F0_ rfl dX10_valueOf_118
    · skip
      refine lv_tableIn (tgt := 64) (off := 46) hx hb dX10_valueOf_18 (by omega) (by omega) (by rw [show (v8.toInt - 0).toNat = 0 from by omega]; rfl) (by decide) ?_
      refine lv_aload_n hx hb dX10_valueOf_64 rfl (lv_at hl6 1 rfl) ?_
      refine tr_getr Z.1 Z.2.2.2.1 S_13.1 S_13.2 ha0 ta0 rfl rfl (fun _ h => List.mem_cons_of_mem _ (List.mem_append_right _ h)) 10 (by decide) rfl (hts _ (List.mem_of_getElem? (i := 1) rfl)) dX10_valueOf_65 (fun q11 eq11 hq11 tq11 => ?_)
      have tq11 : τ q11 = (64, 0) := tq11
      refine lv_iload_n hx hb dX10_valueOf_68 rfl (lv_at hl6 0 rfl) ?_
      refine tr_iald Z.1 Z.2.2.2.1 S_13.1 S_13.2 hq11 tq11 rfl (by omega) (by omega) dX10_valueOf_69 (fun v12 ev12 lv12 uv12 => ?_)
      rw [← hQ]
      exact en_i Z S_13 F0_ rfl dX10_valueOf_70
    · skip
      refine lv_tableIn (tgt := 71) (off := 53) hx hb dX10_valueOf_18 (by omega) (by omega) (by rw [show (v8.toInt - 0).toNat = 1 from by omega]; rfl) (by decide) ?_
      refine lv_aload_n hx hb dX10_valueOf_71 rfl (lv_at hl6 1 rfl) ?_
      refine tr_getr Z.1 Z.2.2.2.1 S_13.1 S_13.2 ha0 ta0 rfl rfl (fun _ h => List.mem_cons_of_mem _ (List.mem_append_right _ h)) 12 (by decide) rfl (hts _ (List.mem_of_getElem? (i := 2) rfl)) dX10_valueOf_72 (fun q13 eq13 hq13 tq13 => ?_)
      have tq13 : τ q13 = (66, 0) := tq13
      refine lv_iload_n hx hb dX10_valueOf_75 rfl (lv_at hl6 0 rfl) ?_
      refine tr_iald Z.1 Z.2.2.2.1 S_13.1 S_13.2 hq13 tq13 rfl (by omega) (by omega) dX10_valueOf_76 (fun v14 ev14 lv14 uv14 => ?_)
      rw [← hQ]
      exact en_i Z S_13 F0_ rfl dX10_valueOf_77
    · skip
      refine lv_tableIn (tgt := 78) (off := 60) hx hb dX10_valueOf_18 (by omega) (by omega) (by rw [show (v8.toInt - 0).toNat = 2 from by omega]; rfl) (by decide) ?_
      refine lv_aload_n hx hb dX10_valueOf_78 rfl (lv_at hl6 1 rfl) ?_
      refine tr_getr Z.1 Z.2.2.2.1 S_13.1 S_13.2 ha0 ta0 rfl rfl (fun _ h => List.mem_cons_of_mem _ (List.mem_append_right _ h)) 13 (by decide) rfl (hts _ (List.mem_of_getElem? (i := 3) rfl)) dX10_valueOf_79 (fun q15 eq15 hq15 tq15 => ?_)
      have tq15 : τ q15 = (67, 0) := tq15
      refine lv_iload_n hx hb dX10_valueOf_82 rfl (lv_at hl6 0 rfl) ?_
      refine tr_iald Z.1 Z.2.2.2.1 S_13.1 S_13.2 hq15 tq15 rfl (by omega) (by omega) dX10_valueOf_83 (fun v16 ev16 lv16 uv16 => ?_)
      rw [← hQ]
      exact en_i Z S_13 F0_ rfl dX10_valueOf_84
    · skip
      refine lv_tableIn (tgt := 85) (off := 67) hx hb dX10_valueOf_18 (by omega) (by omega) (by rw [show (v8.toInt - 0).toNat = 3 from by omega]; rfl) (by decide) ?_
      refine lv_aload_n hx hb dX10_valueOf_85 rfl (lv_at hl6 1 rfl) ?_
      refine tr_getr Z.1 Z.2.2.2.1 S_13.1 S_13.2 ha0 ta0 rfl rfl (fun _ h => List.mem_cons_of_mem _ (List.mem_append_right _ h)) 15 (by decide) rfl (hts _ (List.mem_of_getElem? (i := 4) rfl)) dX10_valueOf_86 (fun q17 eq17 hq17 tq17 => ?_)
      have tq17 : τ q17 = (69, 0) := tq17
      refine lv_iload_n hx hb dX10_valueOf_89 rfl (lv_at hl6 0 rfl) ?_
      refine tr_iald Z.1 Z.2.2.2.1 S_13.1 S_13.2 hq17 tq17 rfl (by omega) (by omega) dX10_valueOf_90 (fun v18 ev18 lv18 uv18 => ?_)
      rw [← hQ]
      exact en_i Z S_13 F0_ rfl dX10_valueOf_91
    · skip
      refine lv_tableIn (tgt := 92) (off := 74) hx hb dX10_valueOf_18 (by omega) (by omega) (by rw [show (v8.toInt - 0).toNat = 4 from by omega]; rfl) (by decide) ?_
      refine lv_aload_n hx hb dX10_valueOf_92 rfl (lv_at hl6 1 rfl) ?_
      refine tr_getr Z.1 Z.2.2.2.1 S_13.1 S_13.2 ha0 ta0 rfl rfl (fun _ h => List.mem_cons_of_mem _ (List.mem_append_right _ h)) 0 (by decide) rfl (hts _ (List.mem_of_getElem? (i := 5) rfl)) dX10_valueOf_93 (fun q19 eq19 hq19 tq19 => ?_)
      have tq19 : τ q19 = (60, 0) := tq19
      obtain ⟨v20, ev20, tv20⟩ : ∃ v : Int32, Int32.ofInt (1) = v ∧ v.toInt = 1 := ⟨_, rfl, by decide +kernel⟩
      refine lv_iconst hx hb dX10_valueOf_96 ev20 ?_
      refine tr_ialdx Z.1 Z.2.2.2.1 S_13.1 S_13.2 hq19 tq19 rfl (by omega) (by omega) dX10_valueOf_97 (fun v21 ev21 lv21 uv21 => ?_)
      have bv21 : nowB v20.toNatClampNeg = (-2147483648, 2147483647) := nb_o (by show v20.toInt.toNat < 4 ∨ (8 ≤ v20.toInt.toNat ∧ v20.toInt.toNat ≤ 18) ∨ (20 ≤ v20.toInt.toNat ∧ v20.toInt.toNat ≤ 43); omega)
      rw [bv21] at lv21 uv21
      have lv21 : -2147483648 ≤ v21.toInt := lv21
      have uv21 : v21.toInt ≤ 2147483647 := uv21
      have av21 : ai E q19 1 = v21 := ai_at ev21 (by omega)
      rw [← hQ]
      exact en_i Z S_13 F0_ rfl dX10_valueOf_98
    · skip
      refine lv_tableIn (tgt := 99) (off := 81) hx hb dX10_valueOf_18 (by omega) (by omega) (by rw [show (v8.toInt - 0).toNat = 5 from by omega]; rfl) (by decide) ?_
      refine lv_aload_n hx hb dX10_valueOf_99 rfl (lv_at hl6 1 rfl) ?_
      refine tr_geti Z.1 Z.2.2.2.1 S_13.1 S_13.2 ha0 ta0 rfl rfl (fun _ h => List.mem_cons_of_mem _ (List.mem_append_right _ h)) 8 (by decide) rfl (hts _ (List.mem_of_getElem? (i := 6) rfl)) dX10_valueOf_100 (fun v22 ev22 lv22 uv22 => ?_)
      obtain ⟨v23, ev23, tv23⟩ : ∃ v : Int32, Int32.ofInt (1) = v ∧ v.toInt = 1 := ⟨_, rfl, by decide +kernel⟩
      refine lv_iconst hx hb dX10_valueOf_103 ev23 ?_
      refine lv_iadd hx hb dX10_valueOf_104 ?_
      refine lv_topi (fun v24 ev24 => ?_)
      have tv24 := nu_add ev24 (by omega) (by omega)
      rw [← hQ]
      exact en_i Z S_13 F0_ rfl dX10_valueOf_105
    · skip
      refine lv_tableIn (tgt := 106) (off := 88) hx hb dX10_valueOf_18 (by omega) (by omega) (by rw [show (v8.toInt - 0).toNat = 6 from by omega]; rfl) (by decide) ?_
      refine lv_iload_n hx hb dX10_valueOf_106 rfl (lv_at hl6 0 rfl) ?_
      obtain ⟨v25, ev25, tv25⟩ : ∃ v : Int32, Int32.ofInt (1) = v ∧ v.toInt = 1 := ⟨_, rfl, by decide +kernel⟩
      refine lv_iconst hx hb dX10_valueOf_107 ev25 ?_
      refine lv_iadd hx hb dX10_valueOf_108 ?_
      refine lv_topi (fun v26 ev26 => ?_)
      have tv26 := nu_add ev26 (by omega) (by omega)
      rw [← hQ]
      exact en_i Z S_13 F0_ rfl dX10_valueOf_109
    · skip
      refine lv_tableIn (tgt := 110) (off := 92) hx hb dX10_valueOf_18 (by omega) (by omega) (by rw [show (v8.toInt - 0).toNat = 7 from by omega]; rfl) (by decide) ?_
      refine lv_aload_n hx hb dX10_valueOf_110 rfl (lv_at hl6 1 rfl) ?_
      refine tr_getr Z.1 Z.2.2.2.1 S_13.1 S_13.2 ha0 ta0 rfl rfl (fun _ h => List.mem_cons_of_mem _ (List.mem_append_right _ h)) 9 (by decide) rfl (hts _ (List.mem_of_getElem? (i := 7) rfl)) dX10_valueOf_111 (fun q27 eq27 hq27 tq27 => ?_)
      have tq27 : τ q27 = (63, 0) := tq27
      refine lv_iload_n hx hb dX10_valueOf_114 rfl (lv_at hl6 0 rfl) ?_
      refine tr_iald Z.1 Z.2.2.2.1 S_13.1 S_13.2 hq27 tq27 rfl (by omega) (by omega) dX10_valueOf_115 (fun v28 ev28 lv28 uv28 => ?_)
      rw [← hQ]
      exact en_i Z S_13 F0_ rfl dX10_valueOf_116
  refine lv_iload_n hx hb dX10_valueOf_0 rfl (lv_at hl 1 rfl) ?_
  obtain ⟨v29, ev29, tv29⟩ : ∃ v : Int32, (Int8.ofInt (15)).toInt32 = v ∧ v.toInt = 15 := ⟨_, rfl, by decide +kernel⟩
  refine lv_bipush hx hb dX10_valueOf_1 ev29 ?_
  refine lv_icmp_le (tgt := 12) hx hb dX10_valueOf_3 (by decide) (fun c30 => ?_) (fun c30 => ?_)
  · skip
    have tc30 := nu_le c30
    refine lv_iload_n hx hb dX10_valueOf_12 rfl (lv_at hl 2 rfl) ?_
    exact J13 a2 s.heap [] ls S0 (by omega) (by omega) (by omega) (by omega) (lv_sub hl [0, 1] rfl)
  · skip
    have tc30 := nu_nle c30
    refine lv_iload_n hx hb dX10_valueOf_6 rfl (lv_at hl 2 rfl) ?_
    obtain ⟨v31, ev31, tv31⟩ : ∃ v : Int32, Int32.ofInt (1) = v ∧ v.toInt = 1 := ⟨_, rfl, by decide +kernel⟩
    refine lv_iconst hx hb dX10_valueOf_7 ev31 ?_
    refine lv_iadd hx hb dX10_valueOf_8 ?_
    refine lv_topi (fun v32 ev32 => ?_)
    have tv32 := nu_add ev32 (by omega) (by omega)
    refine lv_goto (tgt := 13) hx hb dX10_valueOf_9 (by decide) ?_
    exact J13 v32 s.heap [] ls S0 (by omega) (by omega) (by omega) (by omega) (lv_sub hl [0, 1] rfl)

