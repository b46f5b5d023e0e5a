set_option maxRecDepth 20000 in
theorem ggX10_size_X10_asTold : GoodIn wsX10_size wsX10_asTold := goodIn_r _ [11, 12, 2, 13, 14, 15, 10, 16, 3, 17, 18, 19, 4, 20, 21, 22, 23, 24, 25, 26, 27, 28, 29, 30, 31, 32, 37, 38, 39, 40, 41, 42, 43, 44, 45, 46, 47, 48, 49, 50, 51, 52, 53, 54, 55, 56, 57, 58, 59, 60, 61, 62, 63, 64, 65, 66, 67, 68, 69, 70, 71, 72, 73, 74, 75, 76, 77, 78, 79, 80, 81, 82, 83, 84] (by decide +kernel) (by decide +kernel)
set_option maxRecDepth 20000 in
theorem gX10_size_X10_asTold : GoodIn wsX10_size (wsV RX10 134 RX10 yX10_asTold wsX10_asTold) := goodIn_app (goodIn_of _ (by decide +kernel)) ggX10_size_X10_asTold
set_option maxRecDepth 20000 in
theorem ggX10_size_X10_priceHere : GoodIn wsX10_size wsX10_priceHere := goodIn_r _ [36, 3, 2, 29, 37, 38, 39, 40, 41, 42, 43, 44, 45, 46, 47, 48, 49, 50, 51, 52, 53, 54, 55, 56, 57, 58, 59, 60, 61, 62, 63, 64, 65, 66, 67, 68, 69, 70, 71, 72, 73, 74, 75, 76, 77, 78, 79, 80, 81, 82, 83, 84] (by decide +kernel) (by decide +kernel)
set_option maxRecDepth 20000 in
theorem gX10_size_X10_priceHere : GoodIn wsX10_size (wsV RX10 137 RX10 yX10_priceHere wsX10_priceHere) := goodIn_app (goodIn_of _ (by decide +kernel)) ggX10_size_X10_priceHere
theorem dX10_size_0 : decode cX10_size 0 = .ok (.aload_n 0, 1) := by decide +kernel
theorem dX10_size_1 : decode cX10_size 1 = .ok (.iconst 0, 1) := by decide +kernel
theorem dX10_size_2 : decode cX10_size 2 = .ok (.putfield 97, 3) := by decide +kernel
theorem dX10_size_5 : decode cX10_size 5 = .ok (.aload_n 0, 1) := by decide +kernel
theorem dX10_size_6 : decode cX10_size 6 = .ok (.invokevirtual 134, 3) := by decide +kernel
theorem dX10_size_9 : decode cX10_size 9 = .ok (.iconst 0, 1) := by decide +kernel
theorem dX10_size_10 : decode cX10_size 10 = .ok (.istore_n 2, 1) := by decide +kernel
theorem dX10_size_11 : decode cX10_size 11 = .ok (.iload_n 1, 1) := by decide +kernel
theorem dX10_size_12 : decode cX10_size 12 = .ok (.tableswitch 141 0 11 #[64, 64, 64, 64, 71, 78, 83, 91, 99, 104, 131, 136], 64) := by decide +kernel
theorem dX10_size_76 : decode cX10_size 76 = .ok (.aload_n 0, 1) := by decide +kernel
theorem dX10_size_77 : decode cX10_size 77 = .ok (.getfield 7, 3) := by decide +kernel
theorem dX10_size_80 : decode cX10_size 80 = .ok (.iload_n 1, 1) := by decide +kernel
theorem dX10_size_81 : decode cX10_size 81 = .ok (.iaload, 1) := by decide +kernel
theorem dX10_size_82 : decode cX10_size 82 = .ok (.ireturn, 1) := by decide +kernel
theorem dX10_size_83 : decode cX10_size 83 = .ok (.aload_n 0, 1) := by decide +kernel
theorem dX10_size_84 : decode cX10_size 84 = .ok (.getfield 7, 3) := by decide +kernel
theorem dX10_size_87 : decode cX10_size 87 = .ok (.iconst 4, 1) := by decide +kernel
theorem dX10_size_88 : decode cX10_size 88 = .ok (.iaload, 1) := by decide +kernel
theorem dX10_size_89 : decode cX10_size 89 = .ok (.ireturn, 1) := by decide +kernel
theorem dX10_size_90 : decode cX10_size 90 = .ok (.aload_n 0, 1) := by decide +kernel
theorem dX10_size_91 : decode cX10_size 91 = .ok (.getfield 112, 3) := by decide +kernel
theorem dX10_size_94 : decode cX10_size 94 = .ok (.ireturn, 1) := by decide +kernel
theorem dX10_size_95 : decode cX10_size 95 = .ok (.aload_n 0, 1) := by decide +kernel
theorem dX10_size_96 : decode cX10_size 96 = .ok (.getfield 7, 3) := by decide +kernel
theorem dX10_size_99 : decode cX10_size 99 = .ok (.bipush 44, 2) := by decide +kernel
theorem dX10_size_101 : decode cX10_size 101 = .ok (.iaload, 1) := by decide +kernel
theorem dX10_size_102 : decode cX10_size 102 = .ok (.ireturn, 1) := by decide +kernel
theorem dX10_size_103 : decode cX10_size 103 = .ok (.aload_n 0, 1) := by decide +kernel
theorem dX10_size_104 : decode cX10_size 104 = .ok (.getfield 7, 3) := by decide +kernel
theorem dX10_size_107 : decode cX10_size 107 = .ok (.bipush 19, 2) := by decide +kernel
theorem dX10_size_109 : decode cX10_size 109 = .ok (.iaload, 1) := by decide +kernel
theorem dX10_size_110 : decode cX10_size 110 = .ok (.ireturn, 1) := by decide +kernel
theorem dX10_size_111 : decode cX10_size 111 = .ok (.aload_n 0, 1) := by decide +kernel
theorem dX10_size_112 : decode cX10_size 112 = .ok (.invokevirtual 137, 3) := by decide +kernel
theorem dX10_size_115 : decode cX10_size 115 = .ok (.ireturn, 1) := by decide +kernel
theorem dX10_size_116 : decode cX10_size 116 = .ok (.iconst 0, 1) := by decide +kernel
theorem dX10_size_117 : decode cX10_size 117 = .ok (.istore_n 3, 1) := by decide +kernel
theorem dX10_size_118 : decode cX10_size 118 = .ok (.iload_n 3, 1) := by decide +kernel
theorem dX10_size_119 : decode cX10_size 119 = .ok (.aload_n 0, 1) := by decide +kernel
theorem dX10_size_120 : decode cX10_size 120 = .ok (.getfield 112, 3) := by decide +kernel
theorem dX10_size_123 : decode cX10_size 123 = .ok (.if_icmp .ge 18, 3) := by decide +kernel
theorem dX10_size_126 : decode cX10_size 126 = .ok (.iload_n 2, 1) := by decide +kernel
theorem dX10_size_127 : decode cX10_size 127 = .ok (.aload_n 0, 1) := by decide +kernel
theorem dX10_size_128 : decode cX10_size 128 = .ok (.getfield 32, 3) := by decide +kernel
theorem dX10_size_131 : decode cX10_size 131 = .ok (.iload_n 3, 1) := by decide +kernel
theorem dX10_size_132 : decode cX10_size 132 = .ok (.iaload, 1) := by decide +kernel
theorem dX10_size_133 : decode cX10_size 133 = .ok (.iadd, 1) := by decide +kernel
theorem dX10_size_134 : decode cX10_size 134 = .ok (.istore_n 2, 1) := by decide +kernel
theorem dX10_size_135 : decode cX10_size 135 = .ok (.iinc 3 1, 3) := by decide +kernel
theorem dX10_size_138 : decode cX10_size 138 = .ok (.goto (-20), 3) := by decide +kernel
theorem dX10_size_141 : decode cX10_size 141 = .ok (.iload_n 2, 1) := by decide +kernel
theorem dX10_size_142 : decode cX10_size 142 = .ok (.ireturn, 1) := by decide +kernel
theorem dX10_size_143 : decode cX10_size 143 = .ok (.aload_n 0, 1) := by decide +kernel
theorem dX10_size_144 : decode cX10_size 144 = .ok (.getfield 103, 3) := by decide +kernel
theorem dX10_size_147 : decode cX10_size 147 = .ok (.ireturn, 1) := by decide +kernel
theorem dX10_size_148 : decode cX10_size 148 = .ok (.aload_n 0, 1) := by decide +kernel
theorem dX10_size_149 : decode cX10_size 149 = .ok (.getfield 141, 3) := by decide +kernel
theorem dX10_size_152 : decode cX10_size 152 = .ok (.ireturn, 1) := by decide +kernel
theorem dX10_size_153 : decode cX10_size 153 = .ok (.iconst (-1), 1) := by decide +kernel
theorem dX10_size_154 : decode cX10_size 154 = .ok (.ireturn, 1) := by decide +kernel
set_option maxHeartbeats 4000000 in
set_option maxRecDepth 100000 in
theorem k_X10_size (l : Launch) (D : va_G) (cy : Nat → ClassId) {L : List Nat} {τ : Nat → Ro} {E : Ec} (hI : Inv TB cy L τ E) {a0 : Nat} (ha0 : a0 ∈ L) (ta0 : τ a0 = (11, 0)) (a1 : Int32) : CtI l yX10_size wsX10_size { frames := 3, cells := 0, slots := 0, locals := 74 } D TB cy L τ E [.ref a0, .int a1] (inW [(11, 0), (63, 0), (64, 0), (65, 0), (66, 0), (67, 0), (68, 0), (69, 0), (70, 0), (71, 0), (62, 0)]) (fun r E' => True) := by
  intro sz
  refine sta (cc := cX10_size) (maxL := 4) hI (by decide) rfl (Nat.le_of_ble_eq_true rfl) (fun p e s m args below meth c ls hsz Z S0 hl => ?_)
  have hx := Z.1.1
  have hb := Z.1.2.1
  have hts := Z.1.2.2.2.2
  have F0_ : Fr L τ (inW [(11, 0), (63, 0), (64, 0), (65, 0), (66, 0), (67, 0), (68, 0), (69, 0), (70, 0), (71, 0), (62, 0)]) E E := Fr.refl
  have hl : lv_has ls 4 [(0, .ref a0), (1, .int a1)] := hl
  generalize hQ : MQ below _ args s 0 0 _ = QQ
  have J118 : ∀ (n : Nat) (x2_118 : Int32) (x3_118 : Int32) (E_118 : Ec) (H_118 : Heap) (k_118 : List Loc) (l_118 : Array Slot), Now D TB cy (va_A (va_pl L E) sz) s L τ E_118 H_118 k_118 → Fr L τ (inW [(11, 0), (63, 0), (64, 0), (65, 0), (66, 0), (67, 0), (68, 0), (69, 0), (70, 0), (71, 0), (62, 0)]) E E_118 → (0 ≤ x3_118.toInt) → (x3_118.toInt ≤ 66) → (66 - x3_118.toInt).toNat < n → lv_has l_118 4 [(0, .ref a0), (2, .int x2_118), (3, .int x3_118)] → W p l e { frames := 3, cells := 0, slots := 0, locals := 74 } s m args below meth c H_118 k_118 0 0 QQ (F0 m 118 l_118 []) := by
    intro n
    induction n with
    | zero => intro x2_118 x3_118 E_118 H_118 k_118 l_118 S_118 F_118 z1 z2 hm hl_118; exact absurd hm (Nat.not_lt_zero _)
    | succ n ih =>
      intro x2_118 x3_118 E_118 H_118 k_118 l_118 S_118 F_118 z1 z2 hm hl_118
      have ih_118 := ih
      refine lv_iload_n hx hb dX10_size_118 rfl (lv_at hl_118 2 rfl) ?_
      refine lv_aload_n hx hb dX10_size_119 rfl (lv_at hl_118 0 rfl) ?_
      refine tr_geti Z.1 Z.2.2.2.1 S_118.1 S_118.2 ha0 ta0 rfl rfl (fun _ h => List.mem_cons_of_mem _ (List.mem_append_right _ h)) 8 (by decide) rfl (hts _ (List.mem_of_getElem? (i := 3) rfl)) dX10_size_120 (fun v3 ev3 lv3 uv3 => ?_)
      refine lv_icmp_ge (tgt := 141) hx hb dX10_size_123 (by decide) (fun c4 => ?_) (fun c4 => ?_)
      · skip
        have tc4 := nu_le c4
        refine lv_iload_n hx hb dX10_size_141 rfl (lv_at hl_118 1 rfl) ?_
        rw [← hQ]
        exact en_i Z S_118 F_118 trivial dX10_size_142
      · skip
        have tc4 := nu_nle c4
        refine lv_iload_n hx hb dX10_size_126 rfl (lv_at hl_118 1 rfl) ?_
        refine lv_aload_n hx hb dX10_size_127 rfl (lv_at hl_118 0 rfl) ?_
        refine tr_getr Z.1 Z.2.2.2.1 S_118.1 S_118.2 ha0 ta0 rfl rfl (fun _ h => List.mem_cons_of_mem _ (List.mem_append_right _ h)) 12 (by decide) rfl (hts _ (List.mem_of_getElem? (i := 4) rfl)) dX10_size_128 (fun q5 eq5 hq5 tq5 => ?_)
        have tq5 : τ q5 = (66, 0) := tq5
        refine lv_iload_n hx hb dX10_size_131 rfl (lv_at hl_118 2 rfl) ?_
        refine tr_iald Z.1 Z.2.2.2.1 S_118.1 S_118.2 hq5 tq5 rfl (by omega) (by omega) dX10_size_132 (fun v6 ev6 lv6 uv6 => ?_)
        refine lv_iadd hx hb dX10_size_133 ?_
        refine lv_topi (fun v7 ev7 => ?_)
        refine lv_istore_n (lv' := [(2, .int v7), (0, .ref a0), (3, .int x3_118)]) hx hb dX10_size_134 rfl hl_118 (by decide) rfl (fun l8 hl9 => ?_)
        obtain ⟨v10, ev10⟩ : ∃ y : Int32, x3_118 + Int32.ofInt (1) = y := ⟨_, rfl⟩
        have tv10 : v10.toInt = x3_118.toInt + (1) := by rw [← ev10]; exact (fb_addI (by rw [show (Int32.ofInt (1)).toInt = 1 from by decide +kernel]; omega) (by rw [show (Int32.ofInt (1)).toInt = 1 from by decide +kernel]; omega)).trans (by rw [show (Int32.ofInt (1)).toInt = 1 from by decide +kernel])
        refine lv_iinc (v := v10) (lv' := [(3, .int v10), (2, .int v7), (0, .ref a0)]) hx hb dX10_size_135 hl9 (k := 2) rfl ev10 (by decide) rfl (fun l11 hl12 => ?_)
        refine lv_goto (tgt := 118) hx hb dX10_size_138 (by decide) ?_
        exact ih_118 v7 v10 E_118 H_118 k_118 l11 S_118 F_118 (by have := fb_rng v7; omega) (by have := fb_rng v7; omega) (by omega) (lv_sub hl12 [2, 1, 0] rfl)
  have J76 : ∀  (E_76 : Ec) (H_76 : Heap) (k_76 : List Loc) (l_76 : Array Slot), Now D TB cy (va_A (va_pl L E) sz) s L τ E_76 H_76 k_76 → Fr L τ (inW [(11, 0), (63, 0), (64, 0), (65, 0), (66, 0), (67, 0), (68, 0), (69, 0), (70, 0), (71, 0), (62, 0)]) E E_76 → (0 ≤ a1.toInt) → (a1.toInt ≤ 3) → lv_has l_76 4 [(0, .ref a0), (1, .int a1)] → W p l e { frames := 3, cells := 0, slots := 0, locals := 74 } s m args below meth c H_76 k_76 0 0 QQ (F0 m 76 l_76 []) := by
    intro  E_76 H_76 k_76 l_76 S_76 F_76 z13 z14 hl_76
    refine lv_aload_n hx hb dX10_size_76 rfl (lv_at hl_76 0 rfl) ?_
    refine tr_getr Z.1 Z.2.2.2.1 S_76.1 S_76.2 ha0 ta0 rfl rfl (fun _ h => List.mem_cons_of_mem _ (List.mem_append_right _ h)) 0 (by decide) rfl (hts _ (List.mem_of_getElem? (i := 2) rfl)) dX10_size_77 (fun q15 eq15 hq15 tq15 => ?_)
    have tq15 : τ q15 = (60, 0) := tq15
    refine lv_iload_n hx hb dX10_size_80 rfl (lv_at hl_76 1 rfl) ?_
    refine tr_ialdx Z.1 Z.2.2.2.1 S_76.1 S_76.2 hq15 tq15 rfl (by omega) (by omega) dX10_size_81 (fun v16 ev16 lv16 uv16 => ?_)
    have bv16 : nowB a1.toNatClampNeg = (-2147483648, 2147483647) := nb_o (by show a1.toInt.toNat < 4 ∨ (8 ≤ a1.toInt.toNat ∧ a1.toInt.toNat ≤ 18) ∨ (20 ≤ a1.toInt.toNat ∧ a1.toInt.toNat ≤ 43); omega)
    rw [bv16] at lv16 uv16
    have lv16 : -2147483648 ≤ v16.toInt := lv16
    have uv16 : v16.toInt ≤ 2147483647 := uv16
    rw [← hQ]
    exact en_i Z S_76 F_76 trivial dX10_size_82
  refine lv_aload_n hx hb dX10_size_0 rfl (lv_at hl 0 rfl) ?_
  obtain ⟨v17, ev17, tv17⟩ : ∃ v : Int32, Int32.ofInt (0) = v ∧ v.toInt = 0 := ⟨_, rfl, by decide +kernel⟩
  refine lv_iconst hx hb dX10_size_1 ev17 ?_
  refine tr_puti Z.1 Z.2.2.2.1 S0.1 S0.2 ha0 ta0 rfl rfl (fun _ h => List.mem_cons_of_mem _ (List.mem_append_right _ h)) tyX10_ok nmX10 4 (by decide) rfl rfl rfl (hts _ (List.mem_of_getElem? (i := 1) rfl)) dX10_size_2 (by omega) (by omega) (fun E18 H19 k20 W18 I18 P18 => ?_)
  have S18 : Now D TB cy (va_A (va_pl L E) sz) s L τ E18 H19 k20 := ⟨W18, I18⟩
  have F18 : Fr L τ (inW [(11, 0), (63, 0), (64, 0), (65, 0), (66, 0), (67, 0), (68, 0), (69, 0), (70, 0), (71, 0), (62, 0)]) E E18 := Fr.put F0_ P18 ta0 rfl
  refine lv_aload_n hx hb dX10_size_5 rfl (lv_at hl 0 rfl) ?_
  refine tc_vv Z.1 Z.2.2.2.1 Z.2.2.2.2.1 Z.2.2.2.2.2 S18.1 S18.2 ha0 ta0 rfl rfl (k_X10_asTold l D cy S18.2 ha0 ta0) (cwV 0 hts gX10_size_X10_asTold rfl rfl rfl (by decide +kernel) ⟨Nat.le_of_ble_eq_true rfl, Nat.le_of_ble_eq_true rfl⟩) rfl hl.1 rfl (Nat.le_of_ble_eq_true rfl) dX10_size_6 ⟨Nat.zero_le _, Nat.zero_le _⟩ (fun E21 H22 k23 W21 I21 G21 p21 => ?_)
  have S21 : Now D TB cy (va_A (va_pl L E) sz) s L τ E21 H22 k23 := ⟨W21, I21⟩
  have F21 : Fr L τ (inW [(11, 0), (63, 0), (64, 0), (65, 0), (66, 0), (67, 0), (68, 0), (69, 0), (70, 0), (71, 0), (62, 0)]) E E21 := F18.trans (G21.mono (inW_mono (by decide)))
  obtain ⟨v25, ev25, tv25⟩ : ∃ v : Int32, Int32.ofInt (0) = v ∧ v.toInt = 0 := ⟨_, rfl, by decide +kernel⟩
  refine lv_iconst hx hb dX10_size_9 ev25 ?_
  refine lv_istore_n (lv' := [(2, .int v25), (0, .ref a0), (1, .int a1)]) hx hb dX10_size_10 rfl hl (by decide) rfl (fun l26 hl27 => ?_)
  refine lv_iload_n hx hb dX10_size_11 rfl (lv_at hl27 2 rfl) ?_
  rcases (show (a1.toInt < 0 ∨ 11 < a1.toInt) ∨ a1.toInt = 0 ∨ a1.toInt = 1 ∨ a1.toInt = 2 ∨ a1.toInt = 3 ∨ a1.toInt = 4 ∨ a1.toInt = 5 ∨ a1.toInt = 6 ∨ a1.toInt = 7 ∨ a1.toInt = 8 ∨ a1.toInt = 9 ∨ a1.toInt = 10 ∨ a1.toInt = 11 from by omega) with c28 | c28 | c28 | c28 | c28 | c28 | c28 | c28 | c28 | c28 | c28 | c28 | c28
  · skip
    refine lv_tableOut (tgt := 153) hx hb dX10_size_12 c28 (by decide) ?_
    obtain ⟨v29, ev29, tv29⟩ : ∃ v : Int32, Int32.ofInt (-1) = v ∧ v.toInt = -1 := ⟨_, rfl, by decide +kernel⟩
    refine lv_iconst hx hb dX10_size_153 ev29 ?_
    rw [← hQ]
    exact en_i Z S21 F21 trivial dX10_size_154
  · skip
    refine lv_tableIn (tgt := 76) (off := 64) hx hb dX10_size_12 (by omega) (by omega) (by rw [show (a1.toInt - 0).toNat = 0 from by omega]; rfl) (by decide) ?_
    exact J76 E21 H22 k23 l26 S21 F21 (by omega) (by omega) (lv_sub hl27 [1, 2] rfl)
  · skip
    refine lv_tableIn (tgt := 76) (off := 64) hx hb dX10_size_12 (by omega) (by omega) (by rw [show (a1.toInt - 0).toNat = 1 from by omega]; rfl) (by decide) ?_
    exact J76 E21 H22 k23 l26 S21 F21 (by omega) (by omega) (lv_sub hl27 [1, 2] rfl)
  · skip
    refine lv_tableIn (tgt := 76) (off := 64) hx hb dX10_size_12 (by omega) (by omega) (by rw [show (a1.toInt - 0).toNat = 2 from by omega]; rfl) (by decide) ?_
    exact J76 E21 H22 k23 l26 S21 F21 (by omega) (by omega) (lv_sub hl27 [1, 2] rfl)
  · skip
    refine lv_tableIn (tgt := 76) (off := 64) hx hb dX10_size_12 (by omega) (by omega) (by rw [show (a1.toInt - 0).toNat = 3 from by omega]; rfl) (by decide) ?_
    exact J76 E21 H22 k23 l26 S21 F21 (by omega) (by omega) (lv_sub hl27 [1, 2] rfl)
  · skip
    refine lv_tableIn (tgt := 83) (off := 71) hx hb dX10_size_12 (by omega) (by omega) (by rw [show (a1.toInt - 0).toNat = 4 from by omega]; rfl) (by decide) ?_
    refine lv_aload_n hx hb dX10_size_83 rfl (lv_at hl27 1 rfl) ?_
    refine tr_getr Z.1 Z.2.2.2.1 S21.1 S21.2 ha0 ta0 rfl rfl (fun _ h => List.mem_cons_of_mem _ (List.mem_append_right _ h)) 0 (by decide) rfl (hts _ (List.mem_of_getElem? (i := 2) rfl)) dX10_size_84 (fun q30 eq30 hq30 tq30 => ?_)
    have tq30 : τ q30 = (60, 0) := tq30
    obtain ⟨v31, ev31, tv31⟩ : ∃ v : Int32, Int32.ofInt (4) = v ∧ v.toInt = 4 := ⟨_, rfl, by decide +kernel⟩
    refine lv_iconst hx hb dX10_size_87 ev31 ?_
    refine tr_ialdx Z.1 Z.2.2.2.1 S21.1 S21.2 hq30 tq30 rfl (by omega) (by omega) dX10_size_88 (fun v32 ev32 lv32 uv32 => ?_)
    have bv32 : nowB v31.toNatClampNeg = (0, 3) := nb_4 (by show v31.toInt.toNat = 4; omega)
    rw [bv32] at lv32 uv32
    have lv32 : 0 ≤ v32.toInt := lv32
    have uv32 : v32.toInt ≤ 3 := uv32
    have av32 : ai E21 q30 4 = v32 := ai_at ev32 (by omega)
    rw [← hQ]
    exact en_i Z S21 F21 trivial dX10_size_89
  · skip
    refine lv_tableIn (tgt := 90) (off := 78) hx hb dX10_size_12 (by omega) (by omega) (by rw [show (a1.toInt - 0).toNat = 5 from by omega]; rfl) (by decide) ?_
    refine lv_aload_n hx hb dX10_size_90 rfl (lv_at hl27 1 rfl) ?_
    refine tr_geti Z.1 Z.2.2.2.1 S21.1 S21.2 ha0 ta0 rfl rfl (fun _ h => List.mem_cons_of_mem _ (List.mem_append_right _ h)) 8 (by decide) rfl (hts _ (List.mem_of_getElem? (i := 3) rfl)) dX10_size_91 (fun v33 ev33 lv33 uv33 => ?_)
    rw [← hQ]
    exact en_i Z S21 F21 trivial dX10_size_94
  · skip
    refine lv_tableIn (tgt := 95) (off := 83) hx hb dX10_size_12 (by omega) (by omega) (by rw [show (a1.toInt - 0).toNat = 6 from by omega]; rfl) (by decide) ?_
    refine lv_aload_n hx hb dX10_size_95 rfl (lv_at hl27 1 rfl) ?_
    refine tr_getr Z.1 Z.2.2.2.1 S21.1 S21.2 ha0 ta0 rfl rfl (fun _ h => List.mem_cons_of_mem _ (List.mem_append_right _ h)) 0 (by decide) rfl (hts _ (List.mem_of_getElem? (i := 2) rfl)) dX10_size_96 (fun q34 eq34 hq34 tq34 => ?_)
    have tq34 : τ q34 = (60, 0) := tq34
    obtain ⟨v35, ev35, tv35⟩ : ∃ v : Int32, (Int8.ofInt (44)).toInt32 = v ∧ v.toInt = 44 := ⟨_, rfl, by decide +kernel⟩
    refine lv_bipush hx hb dX10_size_99 ev35 ?_
    refine tr_ialdx Z.1 Z.2.2.2.1 S21.1 S21.2 hq34 tq34 rfl (by omega) (by omega) dX10_size_101 (fun v36 ev36 lv36 uv36 => ?_)
    have bv36 : nowB v35.toNatClampNeg = (0, 8) := nb_44 (by show v35.toInt.toNat = 44; omega)
    rw [bv36] at lv36 uv36
    have lv36 : 0 ≤ v36.toInt := lv36
    have uv36 : v36.toInt ≤ 8 := uv36
    have av36 : ai E21 q34 44 = v36 := ai_at ev36 (by omega)
    rw [← hQ]
    exact en_i Z S21 F21 trivial dX10_size_102
  · skip
    refine lv_tableIn (tgt := 103) (off := 91) hx hb dX10_size_12 (by omega) (by omega) (by rw [show (a1.toInt - 0).toNat = 7 from by omega]; rfl) (by decide) ?_
    refine lv_aload_n hx hb dX10_size_103 rfl (lv_at hl27 1 rfl) ?_
    refine tr_getr Z.1 Z.2.2.2.1 S21.1 S21.2 ha0 ta0 rfl rfl (fun _ h => List.mem_cons_of_mem _ (List.mem_append_right _ h)) 0 (by decide) rfl (hts _ (List.mem_of_getElem? (i := 2) rfl)) dX10_size_104 (fun q37 eq37 hq37 tq37 => ?_)
    have tq37 : τ q37 = (60, 0) := tq37
    obtain ⟨v38, ev38, tv38⟩ : ∃ v : Int32, (Int8.ofInt (19)).toInt32 = v ∧ v.toInt = 19 := ⟨_, rfl, by decide +kernel⟩
    refine lv_bipush hx hb dX10_size_107 ev38 ?_
    refine tr_ialdx Z.1 Z.2.2.2.1 S21.1 S21.2 hq37 tq37 rfl (by omega) (by omega) dX10_size_109 (fun v39 ev39 lv39 uv39 => ?_)
    have bv39 : nowB v38.toNatClampNeg = (0, 8) := nb_19 (by show v38.toInt.toNat = 19; omega)
    rw [bv39] at lv39 uv39
    have lv39 : 0 ≤ v39.toInt := lv39
    have uv39 : v39.toInt ≤ 8 := uv39
    have av39 : ai E21 q37 19 = v39 := ai_at ev39 (by omega)
    rw [← hQ]
    exact en_i Z S21 F21 trivial dX10_size_110
  · skip
    refine lv_tableIn (tgt := 111) (off := 99) hx hb dX10_size_12 (by omega) (by omega) (by rw [show (a1.toInt - 0).toNat = 8 from by omega]; rfl) (by decide) ?_
    refine lv_aload_n hx hb dX10_size_111 rfl (lv_at hl27 1 rfl) ?_
    refine tc_vi Z.1 Z.2.2.2.1 Z.2.2.2.2.1 Z.2.2.2.2.2 S21.1 S21.2 ha0 ta0 rfl rfl (k_X10_priceHere l D cy S21.2 ha0 ta0) (cwV 0 hts gX10_size_X10_priceHere rfl rfl rfl (by decide +kernel) ⟨Nat.le_of_ble_eq_true rfl, Nat.le_of_ble_eq_true rfl⟩) rfl hl27.1 rfl (Nat.le_of_ble_eq_true rfl) dX10_size_112 ⟨Nat.zero_le _, Nat.zero_le _⟩ (fun v43 E40 H41 k42 W40 I40 G40 p40 => ?_)
    have q40 := p40
    have q40 := q40.symm
    subst q40
    have S40 : Now D TB cy (va_A (va_pl L E) sz) s L τ E21 H41 k42 := ⟨W40, I40⟩
    rw [← hQ]
    exact en_i Z S40 F21 trivial dX10_size_115
  · skip
    refine lv_tableIn (tgt := 116) (off := 104) hx hb dX10_size_12 (by omega) (by omega) (by rw [show (a1.toInt - 0).toNat = 9 from by omega]; rfl) (by decide) ?_
    obtain ⟨v44, ev44, tv44⟩ : ∃ v : Int32, Int32.ofInt (0) = v ∧ v.toInt = 0 := ⟨_, rfl, by decide +kernel⟩
    refine lv_iconst hx hb dX10_size_116 ev44 ?_
    refine lv_istore_n (lv' := [(3, .int v44), (2, .int v25), (0, .ref a0), (1, .int a1)]) hx hb dX10_size_117 rfl hl27 (by decide) rfl (fun l45 hl46 => ?_)
    exact J118 _ v25 v44 E21 H22 k23 l45 S21 F21 (by omega) (by omega) (Nat.lt_succ_self _) (lv_sub hl46 [2, 1, 0] rfl)
  · skip
    refine lv_tableIn (tgt := 143) (off := 131) hx hb dX10_size_12 (by omega) (by omega) (by rw [show (a1.toInt - 0).toNat = 10 from by omega]; rfl) (by decide) ?_
    refine lv_aload_n hx hb dX10_size_143 rfl (lv_at hl27 1 rfl) ?_
    refine tr_geti Z.1 Z.2.2.2.1 S21.1 S21.2 ha0 ta0 rfl rfl (fun _ h => List.mem_cons_of_mem _ (List.mem_append_right _ h)) 2 (by decide) rfl (hts _ (List.mem_of_getElem? (i := 5) rfl)) dX10_size_144 (fun v47 ev47 lv47 uv47 => ?_)
    rw [← hQ]
    exact en_i Z S21 F21 trivial dX10_size_147
  · skip
    refine lv_tableIn (tgt := 148) (off := 136) hx hb dX10_size_12 (by omega) (by omega) (by rw [show (a1.toInt - 0).toNat = 11 from by omega]; rfl) (by decide) ?_
    refine lv_aload_n hx hb dX10_size_148 rfl (lv_at hl27 1 rfl) ?_
    refine tr_geti Z.1 Z.2.2.2.1 S21.1 S21.2 ha0 ta0 rfl rfl (fun _ h => List.mem_cons_of_mem _ (List.mem_append_right _ h)) 45 (by decide) rfl (hts _ (List.mem_of_getElem? (i := 6) rfl)) dX10_size_149 (fun v48 ev48 lv48 uv48 => ?_)
    rw [← hQ]
    exact en_i Z S21 F21 trivial dX10_size_152

set_option maxRecDepth 20000 in
theorem ggX10_tread_X10_asTold : GoodIn wsX10_tread wsX10_asTold := goodIn_r _ [16, 17, 18, 19, 20, 21, 15, 22, 2, 4, 5, 8, 6, 9, 23, 24, 25, 26, 27, 28, 29, 30, 3, 7, 10, 11, 35, 36, 37, 38, 39, 40, 41, 42, 43, 44, 45, 46, 47, 48, 49, 50, 51, 52, 53, 54, 55, 56, 57, 58, 59, 60, 61, 62, 63, 64, 65, 66, 67, 68, 69, 70, 71, 72, 73, 74, 75, 76, 77, 78, 79, 80, 81, 82] (by decide +kernel) (by decide +kernel)
set_option maxRecDepth 20000 in
theorem gX10_tread_X10_asTold : GoodIn wsX10_tread (wsV RX10 134 RX10 yX10_asTold wsX10_asTold) := goodIn_app (goodIn_of _ (by decide +kernel)) ggX10_tread_X10_asTold
set_option maxRecDepth 20000 in
theorem ggX10_tread_X10_in : GoodIn wsX10_tread wsX10_in := goodIn_r _ [34] (by decide +kernel) (by decide +kernel)
set_option maxRecDepth 20000 in
theorem gX10_tread_X10_in : GoodIn wsX10_tread (wsV RX10 123 RX10 yX10_in wsX10_in) := goodIn_app (goodIn_of _ (by decide +kernel)) ggX10_tread_X10_in
theorem dX10_tread_0 : decode cX10_tread 0 = .ok (.aload_n 0, 1) := by decide +kernel
theorem dX10_tread_1 : decode cX10_tread 1 = .ok (.iconst 0, 1) := by decide +kernel
theorem dX10_tread_2 : decode cX10_tread 2 = .ok (.putfield 97, 3) := by decide +kernel
theorem dX10_tread_5 : decode cX10_tread 5 = .ok (.aload_n 0, 1) := by decide +kernel
theorem dX10_tread_6 : decode cX10_tread 6 = .ok (.invokevirtual 134, 3) := by decide +kernel
theorem dX10_tread_9 : decode cX10_tread 9 = .ok (.aload_n 0, 1) := by decide +kernel
theorem dX10_tread_10 : decode cX10_tread 10 = .ok (.iload_n 1, 1) := by decide +kernel
theorem dX10_tread_11 : decode cX10_tread 11 = .ok (.iconst 0, 1) := by decide +kernel
theorem dX10_tread_12 : decode cX10_tread 12 = .ok (.aload_n 0, 1) := by decide +kernel
theorem dX10_tread_13 : decode cX10_tread 13 = .ok (.getfield 112, 3) := by decide +kernel
theorem dX10_tread_16 : decode cX10_tread 16 = .ok (.iconst 1, 1) := by decide +kernel
theorem dX10_tread_17 : decode cX10_tread 17 = .ok (.isub, 1) := by decide +kernel
theorem dX10_tread_18 : decode cX10_tread 18 = .ok (.invokevirtual 123, 3) := by decide +kernel
theorem dX10_tread_21 : decode cX10_tread 21 = .ok (.ifCond .ne 7, 3) := by decide +kernel
theorem dX10_tread_24 : decode cX10_tread 24 = .ok (.sipush (-10000), 3) := by decide +kernel
theorem dX10_tread_27 : decode cX10_tread 27 = .ok (.ireturn, 1) := by decide +kernel
theorem dX10_tread_28 : decode cX10_tread 28 = .ok (.iload_n 2, 1) := by decide +kernel
theorem dX10_tread_29 : decode cX10_tread 29 = .ok (.tableswitch 114 0 8 #[51, 58, 65, 72, 79, 86, 93, 100, 107], 51) := by decide +kernel
theorem dX10_tread_80 : decode cX10_tread 80 = .ok (.aload_n 0, 1) := by decide +kernel
theorem dX10_tread_81 : decode cX10_tread 81 = .ok (.getfield 23, 3) := by decide +kernel
theorem dX10_tread_84 : decode cX10_tread 84 = .ok (.iload_n 1, 1) := by decide +kernel
theorem dX10_tread_85 : decode cX10_tread 85 = .ok (.iaload, 1) := by decide +kernel
theorem dX10_tread_86 : decode cX10_tread 86 = .ok (.ireturn, 1) := by decide +kernel
theorem dX10_tread_87 : decode cX10_tread 87 = .ok (.aload_n 0, 1) := by decide +kernel
theorem dX10_tread_88 : decode cX10_tread 88 = .ok (.getfield 26, 3) := by decide +kernel
theorem dX10_tread_91 : decode cX10_tread 91 = .ok (.iload_n 1, 1) := by decide +kernel
theorem dX10_tread_92 : decode cX10_tread 92 = .ok (.iaload, 1) := by decide +kernel
theorem dX10_tread_93 : decode cX10_tread 93 = .ok (.ireturn, 1) := by decide +kernel
theorem dX10_tread_94 : decode cX10_tread 94 = .ok (.aload_n 0, 1) := by decide +kernel
theorem dX10_tread_95 : decode cX10_tread 95 = .ok (.getfield 29, 3) := by decide +kernel
theorem dX10_tread_98 : decode cX10_tread 98 = .ok (.iload_n 1, 1) := by decide +kernel
theorem dX10_tread_99 : decode cX10_tread 99 = .ok (.iaload, 1) := by decide +kernel
theorem dX10_tread_100 : decode cX10_tread 100 = .ok (.ireturn, 1) := by decide +kernel
theorem dX10_tread_101 : decode cX10_tread 101 = .ok (.aload_n 0, 1) := by decide +kernel
theorem dX10_tread_102 : decode cX10_tread 102 = .ok (.getfield 32, 3) := by decide +kernel
theorem dX10_tread_105 : decode cX10_tread 105 = .ok (.iload_n 1, 1) := by decide +kernel
theorem dX10_tread_106 : decode cX10_tread 106 = .ok (.iaload, 1) := by decide +kernel
theorem dX10_tread_107 : decode cX10_tread 107 = .ok (.ireturn, 1) := by decide +kernel
theorem dX10_tread_108 : decode cX10_tread 108 = .ok (.aload_n 0, 1) := by decide +kernel
theorem dX10_tread_109 : decode cX10_tread 109 = .ok (.getfield 35, 3) := by decide +kernel
theorem dX10_tread_112 : decode cX10_tread 112 = .ok (.iload_n 1, 1) := by decide +kernel
theorem dX10_tread_113 : decode cX10_tread 113 = .ok (.iaload, 1) := by decide +kernel
theorem dX10_tread_114 : decode cX10_tread 114 = .ok (.ireturn, 1) := by decide +kernel
theorem dX10_tread_115 : decode cX10_tread 115 = .ok (.aload_n 0, 1) := by decide +kernel
theorem dX10_tread_116 : decode cX10_tread 116 = .ok (.getfield 38, 3) := by decide +kernel
theorem dX10_tread_119 : decode cX10_tread 119 = .ok (.iload_n 1, 1) := by decide +kernel
theorem dX10_tread_120 : decode cX10_tread 120 = .ok (.iaload, 1) := by decide +kernel
theorem dX10_tread_121 : decode cX10_tread 121 = .ok (.ireturn, 1) := by decide +kernel
theorem dX10_tread_122 : decode cX10_tread 122 = .ok (.aload_n 0, 1) := by decide +kernel
theorem dX10_tread_123 : decode cX10_tread 123 = .ok (.getfield 41, 3) := by decide +kernel
theorem dX10_tread_126 : decode cX10_tread 126 = .ok (.iload_n 1, 1) := by decide +kernel
theorem dX10_tread_127 : decode cX10_tread 127 = .ok (.iaload, 1) := by decide +kernel
theorem dX10_tread_128 : decode cX10_tread 128 = .ok (.ireturn, 1) := by decide +kernel
theorem dX10_tread_129 : decode cX10_tread 129 = .ok (.aload_n 0, 1) := by decide +kernel
theorem dX10_tread_130 : decode cX10_tread 130 = .ok (.getfield 44, 3) := by decide +kernel
theorem dX10_tread_133 : decode cX10_tread 133 = .ok (.iload_n 1, 1) := by decide +kernel
theorem dX10_tread_134 : decode cX10_tread 134 = .ok (.iaload, 1) := by decide +kernel
theorem dX10_tread_135 : decode cX10_tread 135 = .ok (.ireturn, 1) := by decide +kernel
theorem dX10_tread_136 : decode cX10_tread 136 = .ok (.aload_n 0, 1) := by decide +kernel
theorem dX10_tread_137 : decode cX10_tread 137 = .ok (.getfield 47, 3) := by decide +kernel
theorem dX10_tread_140 : decode cX10_tread 140 = .ok (.iload_n 1, 1) := by decide +kernel
theorem dX10_tread_141 : decode cX10_tread 141 = .ok (.iaload, 1) := by decide +kernel
theorem dX10_tread_142 : decode cX10_tread 142 = .ok (.ireturn, 1) := by decide +kernel
theorem dX10_tread_143 : decode cX10_tread 143 = .ok (.sipush (-10000), 3) := by decide +kernel
theorem dX10_tread_146 : decode cX10_tread 146 = .ok (.ireturn, 1) := by decide +kernel
set_option maxHeartbeats 4000000 in
set_option maxRecDepth 100000 in
theorem k_X10_tread (l : Launch) (D : va_G) (cy : Nat → ClassId) {L : List Nat} {τ : Nat → Ro} {E : Ec} (hI : Inv TB cy L τ E) {a0 : Nat} (ha0 : a0 ∈ L) (ta0 : τ a0 = (11, 0)) (a1 : Int32) (a2 : Int32) : CtI l yX10_tread wsX10_tread { frames := 3, cells := 0, slots := 0, locals := 74 } D TB cy L τ E [.ref a0, .int a1, .int a2] (inW [(11, 0), (63, 0), (64, 0), (65, 0), (66, 0), (67, 0), (68, 0), (69, 0), (70, 0), (71, 0), (62, 0)]) (fun r E' => True) := by
  intro sz
  refine sta (cc := cX10_tread) (maxL := 3) hI (by decide) rfl (Nat.le_of_ble_eq_true rfl) (fun p e s m args below meth c ls hsz Z S0 hl => ?_)
  have hx := Z.1.1
  have hb := Z.1.2.1
  have hts := Z.1.2.2.2.2
  have F0_ : Fr L τ (inW [(11, 0), (63, 0), (64, 0), (65, 0), (66, 0), (67, 0), (68, 0), (69, 0), (70, 0), (71, 0), (62, 0)]) E E := Fr.refl
  have hl : lv_has ls 3 [(0, .ref a0), (1, .int a1), (2, .int a2)] := hl
  generalize hQ : MQ below _ args s 0 0 _ = QQ
  refine lv_aload_n hx hb dX10_tread_0 rfl (lv_at hl 0 rfl) ?_
  obtain ⟨v1, ev1, tv1⟩ : ∃ v : Int32, Int32.ofInt (0) = v ∧ v.toInt = 0 := ⟨_, rfl, by decide +kernel⟩
  refine lv_iconst hx hb dX10_tread_1 ev1 ?_
  refine tr_puti Z.1 Z.2.2.2.1 S0.1 S0.2 ha0 ta0 rfl rfl (fun _ h => List.mem_cons_of_mem _ (List.mem_append_right _ h)) tyX10_ok nmX10 4 (by decide) rfl rfl rfl (hts _ (List.mem_of_getElem? (i := 1) rfl)) dX10_tread_2 (by omega) (by omega) (fun E2 H3 k4 W2 I2 P2 => ?_)
  have S2 : Now D TB cy (va_A (va_pl L E) sz) s L τ E2 H3 k4 := ⟨W2, I2⟩
  have F2 : Fr L τ (inW [(11, 0), (63, 0), (64, 0), (65, 0), (66, 0), (67, 0), (68, 0), (69, 0), (70, 0), (71, 0), (62, 0)]) E E2 := Fr.put F0_ P2 ta0 rfl
  refine lv_aload_n hx hb dX10_tread_5 rfl (lv_at hl 0 rfl) ?_
  refine tc_vv Z.1 Z.2.2.2.1 Z.2.2.2.2.1 Z.2.2.2.2.2 S2.1 S2.2 ha0 ta0 rfl rfl (k_X10_asTold l D cy S2.2 ha0 ta0) (cwV 0 hts gX10_tread_X10_asTold rfl rfl rfl (by decide +kernel) ⟨Nat.le_of_ble_eq_true rfl, Nat.le_of_ble_eq_true rfl⟩) rfl hl.1 rfl (Nat.le_of_ble_eq_true rfl) dX10_tread_6 ⟨Nat.zero_le _, Nat.zero_le _⟩ (fun E5 H6 k7 W5 I5 G5 p5 => ?_)
  have S5 : Now D TB cy (va_A (va_pl L E) sz) s L τ E5 H6 k7 := ⟨W5, I5⟩
  have F5 : Fr L τ (inW [(11, 0), (63, 0), (64, 0), (65, 0), (66, 0), (67, 0), (68, 0), (69, 0), (70, 0), (71, 0), (62, 0)]) E E5 := F2.trans (G5.mono (inW_mono (by decide)))
  refine lv_aload_n hx hb dX10_tread_9 rfl (lv_at hl 0 rfl) ?_
  refine lv_iload_n hx hb dX10_tread_10 rfl (lv_at hl 1 rfl) ?_
  obtain ⟨v9, ev9, tv9⟩ : ∃ v : Int32, Int32.ofInt (0) = v ∧ v.toInt = 0 := ⟨_, rfl, by decide +kernel⟩
  refine lv_iconst hx hb dX10_tread_11 ev9 ?_
  refine lv_aload_n hx hb dX10_tread_12 rfl (lv_at hl 0 rfl) ?_
  refine tr_geti Z.1 Z.2.2.2.1 S5.1 S5.2 ha0 ta0 rfl rfl (fun _ h => List.mem_cons_of_mem _ (List.mem_append_right _ h)) 8 (by decide) rfl (hts _ (List.mem_of_getElem? (i := 2) rfl)) dX10_tread_13 (fun v10 ev10 lv10 uv10 => ?_)
  obtain ⟨v11, ev11, tv11⟩ : ∃ v : Int32, Int32.ofInt (1) = v ∧ v.toInt = 1 := ⟨_, rfl, by decide +kernel⟩
  refine lv_iconst hx hb dX10_tread_16 ev11 ?_
  refine lv_isub hx hb dX10_tread_17 ?_
  refine lv_topi (fun v12 ev12 => ?_)
  have tv12 := nu_sub ev12 (by omega) (by omega)
  refine tc_vi Z.1 Z.2.2.2.1 Z.2.2.2.2.1 Z.2.2.2.2.2 S5.1 S5.2 ha0 ta0 rfl rfl (k_X10_in l D cy S5.2 ha0 ta0 a1 v9 v12) (cwV 3 hts gX10_tread_X10_in rfl rfl rfl (by decide +kernel) ⟨Nat.le_of_ble_eq_true rfl, Nat.le_of_ble_eq_true rfl⟩) rfl hl.1 rfl (Nat.le_of_ble_eq_true rfl) dX10_tread_18 ⟨Nat.zero_le _, Nat.zero_le _⟩ (fun v16 E13 H14 k15 W13 I13 G13 p13 => ?_)
  obtain ⟨q13, p13_0, p13_1, p13_2⟩ := p13
  have q13 := q13.symm
  subst q13
  have S13 : Now D TB cy (va_A (va_pl L E) sz) s L τ E5 H14 k15 := ⟨W13, I13⟩
  refine lv_if_ne (tgt := 28) hx hb dX10_tread_21 (by decide) (fun c17 => ?_) (fun c17 => ?_)
  · skip
    have tc17 := nu_ne c17
    have uc17 : (0 : Int32).toInt = 0 := rfl
    refine lv_iload_n hx hb dX10_tread_28 rfl (lv_at hl 2 rfl) ?_
    rcases (show (a2.toInt < 0 ∨ 8 < a2.toInt) ∨ a2.toInt = 0 ∨ a2.toInt = 1 ∨ a2.toInt = 2 ∨ a2.toInt = 3 ∨ a2.toInt = 4 ∨ a2.toInt = 5 ∨ a2.toInt = 6 ∨ a2.toInt = 7 ∨ a2.toInt = 8 from by omega) with c18 | c18 | c18 | c18 | c18 | c18 | c18 | c18 | c18 | c18
    · skip
      refine lv_tableOut (tgt := 143) hx hb dX10_tread_29 c18 (by decide) ?_
      obtain ⟨v19, ev19, tv19⟩ : ∃ v : Int32, (Int16.ofInt (-10000)).toInt32 = v ∧ v.toInt = -10000 := ⟨_, rfl, by decide +kernel⟩
      refine lv_sipush hx hb dX10_tread_143 ev19 ?_
      rw [← hQ]
      exact en_i Z S13 F5 trivial dX10_tread_146
    · skip
      refine lv_tableIn (tgt := 80) (off := 51) hx hb dX10_tread_29 (by omega) (by omega) (by rw [show (a2.toInt - 0).toNat = 0 from by omega]; rfl) (by decide) ?_
      refine lv_aload_n hx hb dX10_tread_80 rfl (lv_at hl 0 rfl) ?_
      refine tr_getr Z.1 Z.2.2.2.1 S13.1 S13.2 ha0 ta0 rfl rfl (fun _ h => List.mem_cons_of_mem _ (List.mem_append_right _ h)) 9 (by decide) rfl (hts _ (List.mem_of_getElem? (i := 3) rfl)) dX10_tread_81 (fun q20 eq20 hq20 tq20 => ?_)
      have tq20 : τ q20 = (63, 0) := tq20
      refine lv_iload_n hx hb dX10_tread_84 rfl (lv_at hl 1 rfl) ?_
      refine tr_iald Z.1 Z.2.2.2.1 S13.1 S13.2 hq20 tq20 rfl (by omega) (by omega) dX10_tread_85 (fun v21 ev21 lv21 uv21 => ?_)
      rw [← hQ]
      exact en_i Z S13 F5 trivial dX10_tread_86
    · skip
      refine lv_tableIn (tgt := 87) (off := 58) hx hb dX10_tread_29 (by omega) (by omega) (by rw [show (a2.toInt - 0).toNat = 1 from by omega]; rfl) (by decide) ?_
      refine lv_aload_n hx hb dX10_tread_87 rfl (lv_at hl 0 rfl) ?_
      refine tr_getr Z.1 Z.2.2.2.1 S13.1 S13.2 ha0 ta0 rfl rfl (fun _ h => List.mem_cons_of_mem _ (List.mem_append_right _ h)) 10 (by decide) rfl (hts _ (List.mem_of_getElem? (i := 4) rfl)) dX10_tread_88 (fun q22 eq22 hq22 tq22 => ?_)
      have tq22 : τ q22 = (64, 0) := tq22
      refine lv_iload_n hx hb dX10_tread_91 rfl (lv_at hl 1 rfl) ?_
      refine tr_iald Z.1 Z.2.2.2.1 S13.1 S13.2 hq22 tq22 rfl (by omega) (by omega) dX10_tread_92 (fun v23 ev23 lv23 uv23 => ?_)
      rw [← hQ]
      exact en_i Z S13 F5 trivial dX10_tread_93
    · skip
      refine lv_tableIn (tgt := 94) (off := 65) hx hb dX10_tread_29 (by omega) (by omega) (by rw [show (a2.toInt - 0).toNat = 2 from by omega]; rfl) (by decide) ?_
      refine lv_aload_n hx hb dX10_tread_94 rfl (lv_at hl 0 rfl) ?_
      refine tr_getr Z.1 Z.2.2.2.1 S13.1 S13.2 ha0 ta0 rfl rfl (fun _ h => List.mem_cons_of_mem _ (List.mem_append_right _ h)) 11 (by decide) rfl (hts _ (List.mem_of_getElem? (i := 5) rfl)) dX10_tread_95 (fun q24 eq24 hq24 tq24 => ?_)
      have tq24 : τ q24 = (65, 0) := tq24
      refine lv_iload_n hx hb dX10_tread_98 rfl (lv_at hl 1 rfl) ?_
      refine tr_iald Z.1 Z.2.2.2.1 S13.1 S13.2 hq24 tq24 rfl (by omega) (by omega) dX10_tread_99 (fun v25 ev25 lv25 uv25 => ?_)
      rw [← hQ]
      exact en_i Z S13 F5 trivial dX10_tread_100
    · skip
      refine lv_tableIn (tgt := 101) (off := 72) hx hb dX10_tread_29 (by omega) (by omega) (by rw [show (a2.toInt - 0).toNat = 3 from by omega]; rfl) (by decide) ?_
      refine lv_aload_n hx hb dX10_tread_101 rfl (lv_at hl 0 rfl) ?_
      refine tr_getr Z.1 Z.2.2.2.1 S13.1 S13.2 ha0 ta0 rfl rfl (fun _ h => List.mem_cons_of_mem _ (List.mem_append_right _ h)) 12 (by decide) rfl (hts _ (List.mem_of_getElem? (i := 6) rfl)) dX10_tread_102 (fun q26 eq26 hq26 tq26 => ?_)
      have tq26 : τ q26 = (66, 0) := tq26
      refine lv_iload_n hx hb dX10_tread_105 rfl (lv_at hl 1 rfl) ?_
      refine tr_iald Z.1 Z.2.2.2.1 S13.1 S13.2 hq26 tq26 rfl (by omega) (by omega) dX10_tread_106 (fun v27 ev27 lv27 uv27 => ?_)
      rw [← hQ]
      exact en_i Z S13 F5 trivial dX10_tread_107
    · skip
      refine lv_tableIn (tgt := 108) (off := 79) hx hb dX10_tread_29 (by omega) (by omega) (by rw [show (a2.toInt - 0).toNat = 4 from by omega]; rfl) (by decide) ?_
      refine lv_aload_n hx hb dX10_tread_108 rfl (lv_at hl 0 rfl) ?_
      refine tr_getr Z.1 Z.2.2.2.1 S13.1 S13.2 ha0 ta0 rfl rfl (fun _ h => List.mem_cons_of_mem _ (List.mem_append_right _ h)) 13 (by decide) rfl (hts _ (List.mem_of_getElem? (i := 7) rfl)) dX10_tread_109 (fun q28 eq28 hq28 tq28 => ?_)
      have tq28 : τ q28 = (67, 0) := tq28
      refine lv_iload_n hx hb dX10_tread_112 rfl (lv_at hl 1 rfl) ?_
      refine tr_iald Z.1 Z.2.2.2.1 S13.1 S13.2 hq28 tq28 rfl (by omega) (by omega) dX10_tread_113 (fun v29 ev29 lv29 uv29 => ?_)
      rw [← hQ]
      exact en_i Z S13 F5 trivial dX10_tread_114
    · skip
      refine lv_tableIn (tgt := 115) (off := 86) hx hb dX10_tread_29 (by omega) (by omega) (by rw [show (a2.toInt - 0).toNat = 5 from by omega]; rfl) (by decide) ?_
      refine lv_aload_n hx hb dX10_tread_115 rfl (lv_at hl 0 rfl) ?_
      refine tr_getr Z.1 Z.2.2.2.1 S13.1 S13.2 ha0 ta0 rfl rfl (fun _ h => List.mem_cons_of_mem _ (List.mem_append_right _ h)) 14 (by decide) rfl (hts _ (List.mem_of_getElem? (i := 8) rfl)) dX10_tread_116 (fun q30 eq30 hq30 tq30 => ?_)
      have tq30 : τ q30 = (68, 0) := tq30
      refine lv_iload_n hx hb dX10_tread_119 rfl (lv_at hl 1 rfl) ?_
      refine tr_iald Z.1 Z.2.2.2.1 S13.1 S13.2 hq30 tq30 rfl (by omega) (by omega) dX10_tread_120 (fun v31 ev31 lv31 uv31 => ?_)
      rw [← hQ]
      exact en_i Z S13 F5 trivial dX10_tread_121
    · skip
      refine lv_tableIn (tgt := 122) (off := 93) hx hb dX10_tread_29 (by omega) (by omega) (by rw [show (a2.toInt - 0).toNat = 6 from by omega]; rfl) (by decide) ?_
      refine lv_aload_n hx hb dX10_tread_122 rfl (lv_at hl 0 rfl) ?_
      refine tr_getr Z.1 Z.2.2.2.1 S13.1 S13.2 ha0 ta0 rfl rfl (fun _ h => List.mem_cons_of_mem _ (List.mem_append_right _ h)) 15 (by decide) rfl (hts _ (List.mem_of_getElem? (i := 9) rfl)) dX10_tread_123 (fun q32 eq32 hq32 tq32 => ?_)
      have tq32 : τ q32 = (69, 0) := tq32
      refine lv_iload_n hx hb dX10_tread_126 rfl (lv_at hl 1 rfl) ?_
      refine tr_iald Z.1 Z.2.2.2.1 S13.1 S13.2 hq32 tq32 rfl (by omega) (by omega) dX10_tread_127 (fun v33 ev33 lv33 uv33 => ?_)
      rw [← hQ]
      exact en_i Z S13 F5 trivial dX10_tread_128
    · skip
      refine lv_tableIn (tgt := 129) (off := 100) hx hb dX10_tread_29 (by omega) (by omega) (by rw [show (a2.toInt - 0).toNat = 7 from by omega]; rfl) (by decide) ?_
      refine lv_aload_n hx hb dX10_tread_129 rfl (lv_at hl 0 rfl) ?_
      refine tr_getr Z.1 Z.2.2.2.1 S13.1 S13.2 ha0 ta0 rfl rfl (fun _ h => List.mem_cons_of_mem _ (List.mem_append_right _ h)) 16 (by decide) rfl (hts _ (List.mem_of_getElem? (i := 10) rfl)) dX10_tread_130 (fun q34 eq34 hq34 tq34 => ?_)
      have tq34 : τ q34 = (70, 0) := tq34
      refine lv_iload_n hx hb dX10_tread_133 rfl (lv_at hl 1 rfl) ?_
      refine tr_iald Z.1 Z.2.2.2.1 S13.1 S13.2 hq34 tq34 rfl (by omega) (by omega) dX10_tread_134 (fun v35 ev35 lv35 uv35 => ?_)
      rw [← hQ]
      exact en_i Z S13 F5 trivial dX10_tread_135
    · skip
      refine lv_tableIn (tgt := 136) (off := 107) hx hb dX10_tread_29 (by omega) (by omega) (by rw [show (a2.toInt - 0).toNat = 8 from by omega]; rfl) (by decide) ?_
      refine lv_aload_n hx hb dX10_tread_136 rfl (lv_at hl 0 rfl) ?_
      refine tr_getr Z.1 Z.2.2.2.1 S13.1 S13.2 ha0 ta0 rfl rfl (fun _ h => List.mem_cons_of_mem _ (List.mem_append_right _ h)) 17 (by decide) rfl (hts _ (List.mem_of_getElem? (i := 11) rfl)) dX10_tread_137 (fun q36 eq36 hq36 tq36 => ?_)
      have tq36 : τ q36 = (71, 0) := tq36
      refine lv_iload_n hx hb dX10_tread_140 rfl (lv_at hl 1 rfl) ?_
      refine tr_iald Z.1 Z.2.2.2.1 S13.1 S13.2 hq36 tq36 rfl (by omega) (by omega) dX10_tread_141 (fun v37 ev37 lv37 uv37 => ?_)
      rw [← hQ]
      exact en_i Z S13 F5 trivial dX10_tread_142
  · skip
    have tc17 := nu_eq c17
    have uc17 : (0 : Int32).toInt = 0 := rfl
    obtain ⟨v38, ev38, tv38⟩ : ∃ v : Int32, (Int16.ofInt (-10000)).toInt32 = v ∧ v.toInt = -10000 := ⟨_, rfl, by decide +kernel⟩
    refine lv_sipush hx hb dX10_tread_24 ev38 ?_
    rw [← hQ]
    exact en_i Z S13 F5 trivial dX10_tread_27

set_option maxRecDepth 20000 in
theorem ggX10_riser_X10_asTold : GoodIn wsX10_riser wsX10_asTold := goodIn_r _ [8, 9, 10, 11, 12, 13, 7, 14, 2, 3, 15, 16, 17, 18, 19, 20, 21, 22, 23, 24, 25, 26, 27, 28, 29, 30, 35, 36, 37, 38, 39, 40, 41, 42, 43, 44, 45, 46, 47, 48, 49, 50, 51, 52, 53, 54, 55, 56, 57, 58, 59, 60, 61, 62, 63, 64, 65, 66, 67, 68, 69, 70, 71, 72, 73, 74, 75, 76, 77, 78, 79, 80, 81, 82] (by decide +kernel) (by decide +kernel)
set_option maxRecDepth 20000 in
theorem gX10_riser_X10_asTold : GoodIn wsX10_riser (wsV RX10 134 RX10 yX10_asTold wsX10_asTold) := goodIn_app (goodIn_of _ (by decide +kernel)) ggX10_riser_X10_asTold
set_option maxRecDepth 20000 in
theorem ggX10_riser_X10_in : GoodIn wsX10_riser wsX10_in := goodIn_r _ [34] (by decide +kernel) (by decide +kernel)
set_option maxRecDepth 20000 in
theorem gX10_riser_X10_in : GoodIn wsX10_riser (wsV RX10 123 RX10 yX10_in wsX10_in) := goodIn_app (goodIn_of _ (by decide +kernel)) ggX10_riser_X10_in
theorem dX10_riser_0 : decode cX10_riser 0 = .ok (.aload_n 0, 1) := by decide +kernel
theorem dX10_riser_1 : decode cX10_riser 1 = .ok (.iconst 0, 1) := by decide +kernel
theorem dX10_riser_2 : decode cX10_riser 2 = .ok (.putfield 97, 3) := by decide +kernel
theorem dX10_riser_5 : decode cX10_riser 5 = .ok (.aload_n 0, 1) := by decide +kernel
theorem dX10_riser_6 : decode cX10_riser 6 = .ok (.invokevirtual 134, 3) := by decide +kernel
theorem dX10_riser_9 : decode cX10_riser 9 = .ok (.aload_n 0, 1) := by decide +kernel
theorem dX10_riser_10 : decode cX10_riser 10 = .ok (.iload_n 1, 1) := by decide +kernel
theorem dX10_riser_11 : decode cX10_riser 11 = .ok (.iconst 0, 1) := by decide +kernel
theorem dX10_riser_12 : decode cX10_riser 12 = .ok (.aload_n 0, 1) := by decide +kernel
theorem dX10_riser_13 : decode cX10_riser 13 = .ok (.getfield 112, 3) := by decide +kernel
theorem dX10_riser_16 : decode cX10_riser 16 = .ok (.invokevirtual 123, 3) := by decide +kernel
theorem dX10_riser_19 : decode cX10_riser 19 = .ok (.ifCond .eq 12, 3) := by decide +kernel
theorem dX10_riser_22 : decode cX10_riser 22 = .ok (.aload_n 0, 1) := by decide +kernel
theorem dX10_riser_23 : decode cX10_riser 23 = .ok (.getfield 26, 3) := by decide +kernel
theorem dX10_riser_26 : decode cX10_riser 26 = .ok (.iload_n 1, 1) := by decide +kernel
theorem dX10_riser_27 : decode cX10_riser 27 = .ok (.iaload, 1) := by decide +kernel
theorem dX10_riser_28 : decode cX10_riser 28 = .ok (.goto 4, 3) := by decide +kernel
theorem dX10_riser_31 : decode cX10_riser 31 = .ok (.iconst (-1), 1) := by decide +kernel
theorem dX10_riser_32 : decode cX10_riser 32 = .ok (.ireturn, 1) := by decide +kernel
set_option maxHeartbeats 4000000 in
set_option maxRecDepth 100000 in
theorem k_X10_riser (l : Launch) (D : va_G) (cy : Nat → ClassId) {L : List Nat} {τ : Nat → Ro} {E : Ec} (hI : Inv TB cy L τ E) {a0 : Nat} (ha0 : a0 ∈ L) (ta0 : τ a0 = (11, 0)) (a1 : Int32) : CtI l yX10_riser wsX10_riser { frames := 3, cells := 0, slots := 0, locals := 74 } D TB cy L τ E [.ref a0, .int a1] (inW [(11, 0), (63, 0), (64, 0), (65, 0), (66, 0), (67, 0), (68, 0), (69, 0), (70, 0), (71, 0), (62, 0)]) (fun r E' => True) := by
  intro sz
  refine sta (cc := cX10_riser) (maxL := 2) hI (by decide) rfl (Nat.le_of_ble_eq_true rfl) (fun p e s m args below meth c ls hsz Z S0 hl => ?_)
  have hx := Z.1.1
  have hb := Z.1.2.1
  have hts := Z.1.2.2.2.2
  have F0_ : Fr L τ (inW [(11, 0), (63, 0), (64, 0), (65, 0), (66, 0), (67, 0), (68, 0), (69, 0), (70, 0), (71, 0), (62, 0)]) E E := Fr.refl
  have hl : lv_has ls 2 [(0, .ref a0), (1, .int a1)] := hl
  generalize hQ : MQ below _ args s 0 0 _ = QQ
  refine lv_aload_n hx hb dX10_riser_0 rfl (lv_at hl 0 rfl) ?_
  obtain ⟨v1, ev1, tv1⟩ : ∃ v : Int32, Int32.ofInt (0) = v ∧ v.toInt = 0 := ⟨_, rfl, by decide +kernel⟩
  refine lv_iconst hx hb dX10_riser_1 ev1 ?_
  refine tr_puti Z.1 Z.2.2.2.1 S0.1 S0.2 ha0 ta0 rfl rfl (fun _ h => List.mem_cons_of_mem _ (List.mem_append_right _ h)) tyX10_ok nmX10 4 (by decide) rfl rfl rfl (hts _ (List.mem_of_getElem? (i := 1) rfl)) dX10_riser_2 (by omega) (by omega) (fun E2 H3 k4 W2 I2 P2 => ?_)
  have S2 : Now D TB cy (va_A (va_pl L E) sz) s L τ E2 H3 k4 := ⟨W2, I2⟩
  have F2 : Fr L τ (inW [(11, 0), (63, 0), (64, 0), (65, 0), (66, 0), (67, 0), (68, 0), (69, 0), (70, 0), (71, 0), (62, 0)]) E E2 := Fr.put F0_ P2 ta0 rfl
  refine lv_aload_n hx hb dX10_riser_5 rfl (lv_at hl 0 rfl) ?_
  refine tc_vv Z.1 Z.2.2.2.1 Z.2.2.2.2.1 Z.2.2.2.2.2 S2.1 S2.2 ha0 ta0 rfl rfl (k_X10_asTold l D cy S2.2 ha0 ta0) (cwV 0 hts gX10_riser_X10_asTold rfl rfl rfl (by decide +kernel) ⟨Nat.le_of_ble_eq_true rfl, Nat.le_of_ble_eq_true rfl⟩) rfl hl.1 rfl (Nat.le_of_ble_eq_true rfl) dX10_riser_6 ⟨Nat.zero_le _, Nat.zero_le _⟩ (fun E5 H6 k7 W5 I5 G5 p5 => ?_)
  have S5 : Now D TB cy (va_A (va_pl L E) sz) s L τ E5 H6 k7 := ⟨W5, I5⟩
  have F5 : Fr L τ (inW [(11, 0), (63, 0), (64, 0), (65, 0), (66, 0), (67, 0), (68, 0), (69, 0), (70, 0), (71, 0), (62, 0)]) E E5 := F2.trans (G5.mono (inW_mono (by decide)))
  refine lv_aload_n hx hb dX10_riser_9 rfl (lv_at hl 0 rfl) ?_
  refine lv_iload_n hx hb dX10_riser_10 rfl (lv_at hl 1 rfl) ?_
  obtain ⟨v9, ev9, tv9⟩ : ∃ v : Int32, Int32.ofInt (0) = v ∧ v.toInt = 0 := ⟨_, rfl, by decide +kernel⟩
  refine lv_iconst hx hb dX10_riser_11 ev9 ?_
  refine lv_aload_n hx hb dX10_riser_12 rfl (lv_at hl 0 rfl) ?_
  refine tr_geti Z.1 Z.2.2.2.1 S5.1 S5.2 ha0 ta0 rfl rfl (fun _ h => List.mem_cons_of_mem _ (List.mem_append_right _ h)) 8 (by decide) rfl (hts _ (List.mem_of_getElem? (i := 2) rfl)) dX10_riser_13 (fun v10 ev10 lv10 uv10 => ?_)
  refine tc_vi Z.1 Z.2.2.2.1 Z.2.2.2.2.1 Z.2.2.2.2.2 S5.1 S5.2 ha0 ta0 rfl rfl (k_X10_in l D cy S5.2 ha0 ta0 a1 v9 v10) (cwV 3 hts gX10_riser_X10_in rfl rfl rfl (by decide +kernel) ⟨Nat.le_of_ble_eq_true rfl, Nat.le_of_ble_eq_true rfl⟩) rfl hl.1 rfl (Nat.le_of_ble_eq_true rfl) dX10_riser_16 ⟨Nat.zero_le _, Nat.zero_le _⟩ (fun v14 E11 H12 k13 W11 I11 G11 p11 => ?_)
  obtain ⟨q11, p11_0, p11_1, p11_2⟩ := p11
  have q11 := q11.symm
  subst q11
  have S11 : Now D TB cy (va_A (va_pl L E) sz) s L τ E5 H12 k13 := ⟨W11, I11⟩
  refine lv_if_eq (tgt := 31) hx hb dX10_riser_19 (by decide) (fun c15 => ?_) (fun c15 => ?_)
  · skip
    have tc15 := nu_eq c15
    have uc15 : (0 : Int32).toInt = 0 := rfl
    obtain ⟨v16, ev16, tv16⟩ : ∃ v : Int32, Int32.ofInt (-1) = v ∧ v.toInt = -1 := ⟨_, rfl, by decide +kernel⟩
    refine lv_iconst hx hb dX10_riser_31 ev16 ?_
    rw [← hQ]
    exact en_i Z S11 F5 trivial dX10_riser_32
  · skip
    have tc15 := nu_ne c15
    have uc15 : (0 : Int32).toInt = 0 := rfl
    refine lv_aload_n hx hb dX10_riser_22 rfl (lv_at hl 0 rfl) ?_
    refine tr_getr Z.1 Z.2.2.2.1 S11.1 S11.2 ha0 ta0 rfl rfl (fun _ h => List.mem_cons_of_mem _ (List.mem_append_right _ h)) 10 (by decide) rfl (hts _ (List.mem_of_getElem? (i := 3) rfl)) dX10_riser_23 (fun q17 eq17 hq17 tq17 => ?_)
    have tq17 : τ q17 = (64, 0) := tq17
    refine lv_iload_n hx hb dX10_riser_26 rfl (lv_at hl 1 rfl) ?_
    refine tr_iald Z.1 Z.2.2.2.1 S11.1 S11.2 hq17 tq17 rfl (by omega) (by omega) dX10_riser_27 (fun v18 ev18 lv18 uv18 => ?_)
    refine lv_goto (tgt := 32) hx hb dX10_riser_28 (by decide) ?_
    rw [← hQ]
    exact en_i Z S11 F5 trivial dX10_riser_32

set_option maxRecDepth 20000 in
theorem ggX10_tell_X10_asTold : GoodIn wsX10_tell wsX10_asTold := goodIn_r _ [9, 10, 11, 12, 13, 14, 8, 15, 2, 16, 17, 18, 19, 20, 21, 22, 23, 24, 25, 26, 27, 28, 29, 30, 31, 32, 37, 38, 39, 40, 41, 42, 43, 44, 45, 46, 47, 48, 49, 50, 51, 52, 53, 54, 55, 56, 57, 58, 59, 60, 61, 62, 63, 64, 65, 66, 67, 68, 69, 70, 71, 72, 73, 74, 75, 76, 77, 78, 79, 80, 81, 82, 83, 84] (by decide +kernel) (by decide +kernel)
set_option maxRecDepth 20000 in
theorem gX10_tell_X10_asTold : GoodIn wsX10_tell (wsV RX10 134 RX10 yX10_asTold wsX10_asTold) := goodIn_app (goodIn_of _ (by decide +kernel)) ggX10_tell_X10_asTold
set_option maxRecDepth 20000 in
theorem ggX10_tell_X10_numberOf : GoodIn wsX10_tell wsX10_numberOf := goodIn_r _ [36, 29, 16, 19, 30, 37, 38, 39, 40, 41, 42, 43, 44, 45, 46, 47, 48, 49, 50, 51, 52, 53, 54, 55, 56, 57, 58, 59, 60, 61, 62, 63, 64, 65, 66, 67, 68, 69, 70, 71, 72, 73, 74, 75, 76, 77, 78, 79, 80, 81, 82, 83, 84] (by decide +kernel) (by decide +kernel)
set_option maxRecDepth 20000 in
theorem gX10_tell_X10_numberOf : GoodIn wsX10_tell (wsV RX10 276 RX10 yX10_numberOf wsX10_numberOf) := goodIn_app (goodIn_of _ (by decide +kernel)) ggX10_tell_X10_numberOf
theorem dX10_tell_0 : decode cX10_tell 0 = .ok (.aload_n 0, 1) := by decide +kernel
theorem dX10_tell_1 : decode cX10_tell 1 = .ok (.iconst 0, 1) := by decide +kernel
theorem dX10_tell_2 : decode cX10_tell 2 = .ok (.putfield 97, 3) := by decide +kernel
theorem dX10_tell_5 : decode cX10_tell 5 = .ok (.aload_n 0, 1) := by decide +kernel
theorem dX10_tell_6 : decode cX10_tell 6 = .ok (.invokevirtual 134, 3) := by decide +kernel
theorem dX10_tell_9 : decode cX10_tell 9 = .ok (.aload_n 0, 1) := by decide +kernel
theorem dX10_tell_10 : decode cX10_tell 10 = .ok (.iconst 4, 1) := by decide +kernel
theorem dX10_tell_11 : decode cX10_tell 11 = .ok (.aload_n 0, 1) := by decide +kernel
theorem dX10_tell_12 : decode cX10_tell 12 = .ok (.getfield 112, 3) := by decide +kernel
theorem dX10_tell_15 : decode cX10_tell 15 = .ok (.imul, 1) := by decide +kernel
theorem dX10_tell_16 : decode cX10_tell 16 = .ok (.putfield 273, 3) := by decide +kernel
theorem dX10_tell_19 : decode cX10_tell 19 = .ok (.iconst 0, 1) := by decide +kernel
theorem dX10_tell_20 : decode cX10_tell 20 = .ok (.istore_n 1, 1) := by decide +kernel
theorem dX10_tell_21 : decode cX10_tell 21 = .ok (.iload_n 1, 1) := by decide +kernel
theorem dX10_tell_22 : decode cX10_tell 22 = .ok (.aload_n 0, 1) := by decide +kernel
theorem dX10_tell_23 : decode cX10_tell 23 = .ok (.getfield 273, 3) := by decide +kernel
theorem dX10_tell_26 : decode cX10_tell 26 = .ok (.if_icmp .ge 20, 3) := by decide +kernel
theorem dX10_tell_29 : decode cX10_tell 29 = .ok (.aload_n 0, 1) := by decide +kernel
theorem dX10_tell_30 : decode cX10_tell 30 = .ok (.getfield 94, 3) := by decide +kernel
theorem dX10_tell_33 : decode cX10_tell 33 = .ok (.iload_n 1, 1) := by decide +kernel
theorem dX10_tell_34 : decode cX10_tell 34 = .ok (.aload_n 0, 1) := by decide +kernel
theorem dX10_tell_35 : decode cX10_tell 35 = .ok (.iload_n 1, 1) := by decide +kernel
theorem dX10_tell_36 : decode cX10_tell 36 = .ok (.invokevirtual 276, 3) := by decide +kernel
theorem dX10_tell_39 : decode cX10_tell 39 = .ok (.iastore, 1) := by decide +kernel
theorem dX10_tell_40 : decode cX10_tell 40 = .ok (.iinc 1 1, 3) := by decide +kernel
theorem dX10_tell_43 : decode cX10_tell 43 = .ok (.goto (-22), 3) := by decide +kernel
theorem dX10_tell_46 : decode cX10_tell 46 = .ok (.aload_n 0, 1) := by decide +kernel
theorem dX10_tell_47 : decode cX10_tell 47 = .ok (.getfield 273, 3) := by decide +kernel
theorem dX10_tell_50 : decode cX10_tell 50 = .ok (.ireturn, 1) := by decide +kernel
set_option maxHeartbeats 4000000 in
set_option maxRecDepth 100000 in
theorem k_X10_tell (l : Launch) (D : va_G) (cy : Nat → ClassId) {L : List Nat} {τ : Nat → Ro} {E : Ec} (hI : Inv TB cy L τ E) {a0 : Nat} (ha0 : a0 ∈ L) (ta0 : τ a0 = (11, 0)) : CtI l yX10_tell wsX10_tell { frames := 3, cells := 0, slots := 0, locals := 74 } D TB cy L τ E [.ref a0] (inW [(11, 0), (63, 0), (64, 0), (65, 0), (66, 0), (67, 0), (68, 0), (69, 0), (70, 0), (71, 0), (62, 0), (86, 0)]) (fun r E' => True) := by
  intro sz
  refine sta (cc := cX10_tell) (maxL := 2) hI (by decide) rfl (Nat.le_of_ble_eq_true rfl) (fun p e s m args below meth c ls hsz Z S0 hl => ?_)
  have hx := Z.1.1
  have hb := Z.1.2.1
  have hts := Z.1.2.2.2.2
  have F0_ : Fr L τ (inW [(11, 0), (63, 0), (64, 0), (65, 0), (66, 0), (67, 0), (68, 0), (69, 0), (70, 0), (71, 0), (62, 0), (86, 0)]) E E := Fr.refl
  have hl : lv_has ls 2 [(0, .ref a0)] := hl
  generalize hQ : MQ below _ args s 0 0 _ = QQ
  have J21 : ∀ (n : Nat) (x1_21 : Int32) (E_21 : Ec) (H_21 : Heap) (k_21 : List Loc) (l_21 : Array Slot), Now D TB cy (va_A (va_pl L E) sz) s L τ E_21 H_21 k_21 → Fr L τ (inW [(11, 0), (63, 0), (64, 0), (65, 0), (66, 0), (67, 0), (68, 0), (69, 0), (70, 0), (71, 0), (62, 0), (86, 0)]) E E_21 → (0 ≤ x1_21.toInt) → (x1_21.toInt ≤ 264) → (264 - x1_21.toInt).toNat < n → lv_has l_21 2 [(0, .ref a0), (1, .int x1_21)] → W p l e { frames := 3, cells := 0, slots := 0, locals := 74 } s m args below meth c H_21 k_21 0 0 QQ (F0 m 21 l_21 []) := by
    intro n
    induction n with
    | zero => intro x1_21 E_21 H_21 k_21 l_21 S_21 F_21 z1 z2 hm hl_21; exact absurd hm (Nat.not_lt_zero _)
    | succ n ih =>
      intro x1_21 E_21 H_21 k_21 l_21 S_21 F_21 z1 z2 hm hl_21
      have ih_21 := ih
      refine lv_iload_n hx hb dX10_tell_21 rfl (lv_at hl_21 1 rfl) ?_
      refine lv_aload_n hx hb dX10_tell_22 rfl (lv_at hl_21 0 rfl) ?_
      refine tr_geti Z.1 Z.2.2.2.1 S_21.1 S_21.2 ha0 ta0 rfl rfl (fun _ h => List.mem_cons_of_mem _ (List.mem_append_right _ h)) 47 (by decide) rfl (hts _ (List.mem_of_getElem? (i := 3) rfl)) dX10_tell_23 (fun v3 ev3 lv3 uv3 => ?_)
      refine lv_icmp_ge (tgt := 46) hx hb dX10_tell_26 (by decide) (fun c4 => ?_) (fun c4 => ?_)
      · skip
        have tc4 := nu_le c4
        refine lv_aload_n hx hb dX10_tell_46 rfl (lv_at hl_21 0 rfl) ?_
        refine tr_geti Z.1 Z.2.2.2.1 S_21.1 S_21.2 ha0 ta0 rfl rfl (fun _ h => List.mem_cons_of_mem _ (List.mem_append_right _ h)) 47 (by decide) rfl (hts _ (List.mem_of_getElem? (i := 3) rfl)) dX10_tell_47 (fun v5 ev5 lv5 uv5 => ?_)
        have wv5 : v5 = v3 := ev5.symm.trans ev3
        have xv5 : v5.toInt = v3.toInt := by rw [wv5]
        rw [← hQ]
        exact en_i Z S_21 F_21 trivial dX10_tell_50
      · skip
        have tc4 := nu_nle c4
        refine lv_aload_n hx hb dX10_tell_29 rfl (lv_at hl_21 0 rfl) ?_
        refine tr_getr Z.1 Z.2.2.2.1 S_21.1 S_21.2 ha0 ta0 rfl rfl (fun _ h => List.mem_cons_of_mem _ (List.mem_append_right _ h)) 46 (by decide) rfl (hts _ (List.mem_of_getElem? (i := 4) rfl)) dX10_tell_30 (fun q6 eq6 hq6 tq6 => ?_)
        have tq6 : τ q6 = (86, 0) := tq6
        refine lv_iload_n hx hb dX10_tell_33 rfl (lv_at hl_21 1 rfl) ?_
        refine lv_aload_n hx hb dX10_tell_34 rfl (lv_at hl_21 0 rfl) ?_
        refine lv_iload_n hx hb dX10_tell_35 rfl (lv_at hl_21 1 rfl) ?_
        refine tc_vi Z.1 Z.2.2.2.1 Z.2.2.2.2.1 Z.2.2.2.2.2 S_21.1 S_21.2 ha0 ta0 rfl rfl (k_X10_numberOf l D cy S_21.2 ha0 ta0 x1_21 (by omega) (by omega)) (cwV 1 hts gX10_tell_X10_numberOf rfl rfl rfl (by decide +kernel) ⟨Nat.le_of_ble_eq_true rfl, Nat.le_of_ble_eq_true rfl⟩) rfl hl_21.1 rfl (Nat.le_of_ble_eq_true rfl) dX10_tell_36 ⟨Nat.zero_le _, Nat.zero_le _⟩ (fun v10 E7 H8 k9 W7 I7 G7 p7 => ?_)
        have q7 := p7
        have q7 := q7.symm
        subst q7
        have S7 : Now D TB cy (va_A (va_pl L E) sz) s L τ E_21 H8 k9 := ⟨W7, I7⟩
        refine tr_iast Z.1 Z.2.2.2.1 S7.1 S7.2 hq6 tq6 rfl (by omega) (by omega) (by have := fb_rng v10; omega) (by have := fb_rng v10; omega) dX10_tell_39 (fun E11 H12 k13 W11 I11 P11 => ?_)
        have S11 : Now D TB cy (va_A (va_pl L E) sz) s L τ E11 H12 k13 := ⟨W11, I11⟩
        have F11 : Fr L τ (inW [(11, 0), (63, 0), (64, 0), (65, 0), (66, 0), (67, 0), (68, 0), (69, 0), (70, 0), (71, 0), (62, 0), (86, 0)]) E E11 := Fr.set F_21 P11 tq6 rfl
        obtain ⟨v14, ev14⟩ : ∃ y : Int32, x1_21 + Int32.ofInt (1) = y := ⟨_, rfl⟩
        have tv14 : v14.toInt = x1_21.toInt + (1) := by rw [← ev14]; exact (fb_addI (by rw [show (Int32.ofInt (1)).toInt = 1 from by decide +kernel]; omega) (by rw [show (Int32.ofInt (1)).toInt = 1 from by decide +kernel]; omega)).trans (by rw [show (Int32.ofInt (1)).toInt = 1 from by decide +kernel])
        refine lv_iinc (v := v14) (lv' := [(1, .int v14), (0, .ref a0)]) hx hb dX10_tell_40 hl_21 (k := 1) rfl ev14 (by decide) rfl (fun l15 hl16 => ?_)
        refine lv_goto (tgt := 21) hx hb dX10_tell_43 (by decide) ?_
        exact ih_21 v14 E11 H12 k13 l15 S11 F11 (by omega) (by omega) (by omega) (lv_sub hl16 [1, 0] rfl)
  refine lv_aload_n hx hb dX10_tell_0 rfl (lv_at hl 0 rfl) ?_
  obtain ⟨v17, ev17, tv17⟩ : ∃ v : Int32, Int32.ofInt (0) = v ∧ v.toInt = 0 := ⟨_, rfl, by decide +kernel⟩
  refine lv_iconst hx hb dX10_tell_1 ev17 ?_
  refine tr_puti Z.1 Z.2.2.2.1 S0.1 S0.2 ha0 ta0 rfl rfl (fun _ h => List.mem_cons_of_mem _ (List.mem_append_right _ h)) tyX10_ok nmX10 4 (by decide) rfl rfl rfl (hts _ (List.mem_of_getElem? (i := 1) rfl)) dX10_tell_2 (by omega) (by omega) (fun E18 H19 k20 W18 I18 P18 => ?_)
  have S18 : Now D TB cy (va_A (va_pl L E) sz) s L τ E18 H19 k20 := ⟨W18, I18⟩
  have F18 : Fr L τ (inW [(11, 0), (63, 0), (64, 0), (65, 0), (66, 0), (67, 0), (68, 0), (69, 0), (70, 0), (71, 0), (62, 0), (86, 0)]) E E18 := Fr.put F0_ P18 ta0 rfl
  refine lv_aload_n hx hb dX10_tell_5 rfl (lv_at hl 0 rfl) ?_
  refine tc_vv Z.1 Z.2.2.2.1 Z.2.2.2.2.1 Z.2.2.2.2.2 S18.1 S18.2 ha0 ta0 rfl rfl (k_X10_asTold l D cy S18.2 ha0 ta0) (cwV 0 hts gX10_tell_X10_asTold rfl rfl rfl (by decide +kernel) ⟨Nat.le_of_ble_eq_true rfl, Nat.le_of_ble_eq_true rfl⟩) rfl hl.1 rfl (Nat.le_of_ble_eq_true rfl) dX10_tell_6 ⟨Nat.zero_le _, Nat.zero_le _⟩ (fun E21 H22 k23 W21 I21 G21 p21 => ?_)
  have S21 : Now D TB cy (va_A (va_pl L E) sz) s L τ E21 H22 k23 := ⟨W21, I21⟩
  have F21 : Fr L τ (inW [(11, 0), (63, 0), (64, 0), (65, 0), (66, 0), (67, 0), (68, 0), (69, 0), (70, 0), (71, 0), (62, 0), (86, 0)]) E E21 := F18.trans (G21.mono (inW_mono (by decide)))
  refine lv_aload_n hx hb dX10_tell_9 rfl (lv_at hl 0 rfl) ?_
  obtain ⟨v25, ev25, tv25⟩ : ∃ v : Int32, Int32.ofInt (4) = v ∧ v.toInt = 4 := ⟨_, rfl, by decide +kernel⟩
  refine lv_iconst hx hb dX10_tell_10 ev25 ?_
  refine lv_aload_n hx hb dX10_tell_11 rfl (lv_at hl 0 rfl) ?_
  refine tr_geti Z.1 Z.2.2.2.1 S21.1 S21.2 ha0 ta0 rfl rfl (fun _ h => List.mem_cons_of_mem _ (List.mem_append_right _ h)) 8 (by decide) rfl (hts _ (List.mem_of_getElem? (i := 2) rfl)) dX10_tell_12 (fun v26 ev26 lv26 uv26 => ?_)
  refine lv_imul hx hb dX10_tell_15 ?_
  refine lv_topi (fun v27 ev27 => ?_)
  have tv27 := nu_mulc' (4) ev27 (by omega) (by omega) (by omega)
  refine tr_puti Z.1 Z.2.2.2.1 S21.1 S21.2 ha0 ta0 rfl rfl (fun _ h => List.mem_cons_of_mem _ (List.mem_append_right _ h)) tyX10_ok nmX10 47 (by decide) rfl rfl rfl (hts _ (List.mem_of_getElem? (i := 3) rfl)) dX10_tell_16 (by omega) (by omega) (fun E28 H29 k30 W28 I28 P28 => ?_)
  have S28 : Now D TB cy (va_A (va_pl L E) sz) s L τ E28 H29 k30 := ⟨W28, I28⟩
  have F28 : Fr L τ (inW [(11, 0), (63, 0), (64, 0), (65, 0), (66, 0), (67, 0), (68, 0), (69, 0), (70, 0), (71, 0), (62, 0), (86, 0)]) E E28 := Fr.put F21 P28 ta0 rfl
  obtain ⟨v31, ev31, tv31⟩ : ∃ v : Int32, Int32.ofInt (0) = v ∧ v.toInt = 0 := ⟨_, rfl, by decide +kernel⟩
  refine lv_iconst hx hb dX10_tell_19 ev31 ?_
  refine lv_istore_n (lv' := [(1, .int v31), (0, .ref a0)]) hx hb dX10_tell_20 rfl hl (by decide) rfl (fun l32 hl33 => ?_)
  exact J21 _ v31 E28 H29 k30 l32 S28 F28 (by omega) (by omega) (Nat.lt_succ_self _) (lv_sub hl33 [1, 0] rfl)

set_option maxRecDepth 20000 in
theorem ggX10_check_X10_no : GoodIn wsX10_check wsX10_no := goodIn_r _ [9, 10, 11, 47, 48, 49, 50, 51, 52, 53, 54, 55, 56, 57, 58, 59, 60, 61, 62, 63, 64, 65, 66, 67, 68, 69, 70, 71, 72, 73, 74, 75, 76, 77, 78, 79, 80, 81, 82, 83, 84, 85, 86, 87, 88, 89, 90, 91, 92, 93, 94] (by decide +kernel) (by decide +kernel)
set_option maxRecDepth 20000 in
theorem gX10_check_X10_no : GoodIn wsX10_check (wsV RX10 144 RX10 yX10_no wsX10_no) := goodIn_app (goodIn_of _ (by decide +kernel)) ggX10_check_X10_no
set_option maxRecDepth 20000 in
theorem ggX10_check_X10_good : GoodIn wsX10_check wsX10_good := goodIn_r _ [15, 10, 11, 47, 48, 49, 50, 51, 52, 53, 54, 55, 56, 57, 58, 59, 60, 61, 62, 63, 64, 65, 66, 67, 68, 69, 70, 71, 72, 73, 74, 75, 76, 77, 78, 79, 80, 81, 82, 83, 84, 85, 86, 87, 88, 89, 90, 91, 92, 93, 94] (by decide +kernel) (by decide +kernel)
set_option maxRecDepth 20000 in
theorem gX10_check_X10_good : GoodIn wsX10_check (wsV RX10 106 RX10 yX10_good wsX10_good) := goodIn_app (goodIn_of _ (by decide +kernel)) ggX10_check_X10_good
set_option maxRecDepth 20000 in
theorem ggX10_check_X10_asTold : GoodIn wsX10_check wsX10_asTold := goodIn_r _ [19, 20, 21, 22, 23, 24, 8, 25, 3, 26, 27, 28, 29, 30, 31, 32, 33, 34, 35, 36, 37, 38, 39, 40, 41, 42, 47, 48, 49, 50, 51, 52, 53, 54, 55, 56, 57, 58, 59, 60, 61, 62, 63, 64, 65, 66, 67, 68, 69, 70, 71, 72, 73, 74, 75, 76, 77, 78, 79, 80, 81, 82, 83, 84, 85, 86, 87, 88, 89, 90, 91, 92, 93, 94] (by decide +kernel) (by decide +kernel)
set_option maxRecDepth 20000 in
theorem gX10_check_X10_asTold : GoodIn wsX10_check (wsV RX10 134 RX10 yX10_asTold wsX10_asTold) := goodIn_app (goodIn_of _ (by decide +kernel)) ggX10_check_X10_asTold
set_option maxRecDepth 20000 in
theorem ggX10_check_X10_numberOf : GoodIn wsX10_check wsX10_numberOf := goodIn_r _ [46, 39, 26, 29, 40, 47, 48, 49, 50, 51, 52, 53, 54, 55, 56, 57, 58, 59, 60, 61, 62, 63, 64, 65, 66, 67, 68, 69, 70, 71, 72, 73, 74, 75, 76, 77, 78, 79, 80, 81, 82, 83, 84, 85, 86, 87, 88, 89, 90, 91, 92, 93, 94] (by decide +kernel) (by decide +kernel)
set_option maxRecDepth 20000 in
theorem gX10_check_X10_numberOf : GoodIn wsX10_check (wsV RX10 276 RX10 yX10_numberOf wsX10_numberOf) := goodIn_app (goodIn_of _ (by decide +kernel)) ggX10_check_X10_numberOf
theorem dX10_check_0 : decode cX10_check 0 = .ok (.aload_n 0, 1) := by decide +kernel
theorem dX10_check_1 : decode cX10_check 1 = .ok (.iconst 0, 1) := by decide +kernel
theorem dX10_check_2 : decode cX10_check 2 = .ok (.putfield 97, 3) := by decide +kernel
theorem dX10_check_5 : decode cX10_check 5 = .ok (.aload_n 0, 1) := by decide +kernel
theorem dX10_check_6 : decode cX10_check 6 = .ok (.getfield 273, 3) := by decide +kernel
theorem dX10_check_9 : decode cX10_check 9 = .ok (.ifCond .ne 9, 3) := by decide +kernel
theorem dX10_check_12 : decode cX10_check 12 = .ok (.aload_n 0, 1) := by decide +kernel
theorem dX10_check_13 : decode cX10_check 13 = .ok (.iconst 5, 1) := by decide +kernel
theorem dX10_check_14 : decode cX10_check 14 = .ok (.invokevirtual 144, 3) := by decide +kernel
theorem dX10_check_17 : decode cX10_check 17 = .ok (.ireturn, 1) := by decide +kernel
theorem dX10_check_18 : decode cX10_check 18 = .ok (.aload_n 0, 1) := by decide +kernel
theorem dX10_check_19 : decode cX10_check 19 = .ok (.invokevirtual 106, 3) := by decide +kernel
theorem dX10_check_22 : decode cX10_check 22 = .ok (.aload_n 0, 1) := by decide +kernel
theorem dX10_check_23 : decode cX10_check 23 = .ok (.invokevirtual 134, 3) := by decide +kernel
theorem dX10_check_26 : decode cX10_check 26 = .ok (.aload_n 0, 1) := by decide +kernel
theorem dX10_check_27 : decode cX10_check 27 = .ok (.getfield 273, 3) := by decide +kernel
theorem dX10_check_30 : decode cX10_check 30 = .ok (.iconst 4, 1) := by decide +kernel
theorem dX10_check_31 : decode cX10_check 31 = .ok (.aload_n 0, 1) := by decide +kernel
theorem dX10_check_32 : decode cX10_check 32 = .ok (.getfield 112, 3) := by decide +kernel
theorem dX10_check_35 : decode cX10_check 35 = .ok (.imul, 1) := by decide +kernel
theorem dX10_check_36 : decode cX10_check 36 = .ok (.if_icmp .eq 6, 3) := by decide +kernel
theorem dX10_check_39 : decode cX10_check 39 = .ok (.bipush (-3), 2) := by decide +kernel
theorem dX10_check_41 : decode cX10_check 41 = .ok (.ireturn, 1) := by decide +kernel
theorem dX10_check_42 : decode cX10_check 42 = .ok (.iconst 0, 1) := by decide +kernel
theorem dX10_check_43 : decode cX10_check 43 = .ok (.istore_n 1, 1) := by decide +kernel
theorem dX10_check_44 : decode cX10_check 44 = .ok (.iload_n 1, 1) := by decide +kernel
theorem dX10_check_45 : decode cX10_check 45 = .ok (.aload_n 0, 1) := by decide +kernel
theorem dX10_check_46 : decode cX10_check 46 = .ok (.getfield 273, 3) := by decide +kernel
theorem dX10_check_49 : decode cX10_check 49 = .ok (.if_icmp .ge 25, 3) := by decide +kernel
theorem dX10_check_52 : decode cX10_check 52 = .ok (.aload_n 0, 1) := by decide +kernel
theorem dX10_check_53 : decode cX10_check 53 = .ok (.getfield 94, 3) := by decide +kernel
theorem dX10_check_56 : decode cX10_check 56 = .ok (.iload_n 1, 1) := by decide +kernel
theorem dX10_check_57 : decode cX10_check 57 = .ok (.iaload, 1) := by decide +kernel
theorem dX10_check_58 : decode cX10_check 58 = .ok (.aload_n 0, 1) := by decide +kernel
theorem dX10_check_59 : decode cX10_check 59 = .ok (.iload_n 1, 1) := by decide +kernel
theorem dX10_check_60 : decode cX10_check 60 = .ok (.invokevirtual 276, 3) := by decide +kernel
theorem dX10_check_63 : decode cX10_check 63 = .ok (.if_icmp .eq 5, 3) := by decide +kernel
theorem dX10_check_66 : decode cX10_check 66 = .ok (.iload_n 1, 1) := by decide +kernel
theorem dX10_check_67 : decode cX10_check 67 = .ok (.ireturn, 1) := by decide +kernel
theorem dX10_check_68 : decode cX10_check 68 = .ok (.iinc 1 1, 3) := by decide +kernel
theorem dX10_check_71 : decode cX10_check 71 = .ok (.goto (-27), 3) := by decide +kernel
theorem dX10_check_74 : decode cX10_check 74 = .ok (.bipush (-2), 2) := by decide +kernel
theorem dX10_check_76 : decode cX10_check 76 = .ok (.ireturn, 1) := by decide +kernel
set_option maxHeartbeats 4000000 in
set_option maxRecDepth 100000 in
theorem k_X10_check (l : Launch) (D : va_G) (cy : Nat → ClassId) {L : List Nat} {τ : Nat → Ro} {E : Ec} (hI : Inv TB cy L τ E) {a0 : Nat} (ha0 : a0 ∈ L) (ta0 : τ a0 = (11, 0)) : CtI l yX10_check wsX10_check { frames := 3, cells := 0, slots := 0, locals := 74 } D TB cy L τ E [.ref a0] (inW [(11, 0), (63, 0), (64, 0), (65, 0), (66, 0), (67, 0), (68, 0), (69, 0), (70, 0), (71, 0), (62, 0)]) (fun r E' => True) := by
  intro sz
  refine sta (cc := cX10_check) (maxL := 2) hI (by decide) rfl (Nat.le_of_ble_eq_true rfl) (fun p e s m args below meth c ls hsz Z S0 hl => ?_)
  have hx := Z.1.1
  have hb := Z.1.2.1
  have hts := Z.1.2.2.2.2
  have F0_ : Fr L τ (inW [(11, 0), (63, 0), (64, 0), (65, 0), (66, 0), (67, 0), (68, 0), (69, 0), (70, 0), (71, 0), (62, 0)]) E E := Fr.refl
  have hl : lv_has ls 2 [(0, .ref a0)] := hl
  generalize hQ : MQ below _ args s 0 0 _ = QQ
  have J44 : ∀ (n : Nat) (x1_44 : Int32) (E_44 : Ec) (H_44 : Heap) (k_44 : List Loc) (l_44 : Array Slot), Now D TB cy (va_A (va_pl L E) sz) s L τ E_44 H_44 k_44 → Fr L τ (inW [(11, 0), (63, 0), (64, 0), (65, 0), (66, 0), (67, 0), (68, 0), (69, 0), (70, 0), (71, 0), (62, 0)]) E E_44 → (0 ≤ x1_44.toInt) → (x1_44.toInt ≤ 264) → (264 - x1_44.toInt).toNat < n → lv_has l_44 2 [(0, .ref a0), (1, .int x1_44)] → W p l e { frames := 3, cells := 0, slots := 0, locals := 74 } s m args below meth c H_44 k_44 0 0 QQ (F0 m 44 l_44 []) := by
    intro n
    induction n with
    | zero => intro x1_44 E_44 H_44 k_44 l_44 S_44 F_44 z1 z2 hm hl_44; exact absurd hm (Nat.not_lt_zero _)
    | succ n ih =>
      intro x1_44 E_44 H_44 k_44 l_44 S_44 F_44 z1 z2 hm hl_44
      have ih_44 := ih
      refine lv_iload_n hx hb dX10_check_44 rfl (lv_at hl_44 1 rfl) ?_
      refine lv_aload_n hx hb dX10_check_45 rfl (lv_at hl_44 0 rfl) ?_
      refine tr_geti Z.1 Z.2.2.2.1 S_44.1 S_44.2 ha0 ta0 rfl rfl (fun _ h => List.mem_cons_of_mem _ (List.mem_append_right _ h)) 47 (by decide) rfl (hts _ (List.mem_of_getElem? (i := 2) rfl)) dX10_check_46 (fun v3 ev3 lv3 uv3 => ?_)
      refine lv_icmp_ge (tgt := 74) hx hb dX10_check_49 (by decide) (fun c4 => ?_) (fun c4 => ?_)
      · skip
        have tc4 := nu_le c4
        obtain ⟨v5, ev5, tv5⟩ : ∃ v : Int32, (Int8.ofInt (-2)).toInt32 = v ∧ v.toInt = -2 := ⟨_, rfl, by decide +kernel⟩
        refine lv_bipush hx hb dX10_check_74 ev5 ?_
        rw [← hQ]
        exact en_i Z S_44 F_44 trivial dX10_check_76
      · skip
        have tc4 := nu_nle c4
        refine lv_aload_n hx hb dX10_check_52 rfl (lv_at hl_44 0 rfl) ?_
        refine tr_getr Z.1 Z.2.2.2.1 S_44.1 S_44.2 ha0 ta0 rfl rfl (fun _ h => List.mem_cons_of_mem _ (List.mem_append_right _ h)) 46 (by decide) rfl (hts _ (List.mem_of_getElem? (i := 4) rfl)) dX10_check_53 (fun q6 eq6 hq6 tq6 => ?_)
        have tq6 : τ q6 = (86, 0) := tq6
        refine lv_iload_n hx hb dX10_check_56 rfl (lv_at hl_44 1 rfl) ?_
        refine tr_iald Z.1 Z.2.2.2.1 S_44.1 S_44.2 hq6 tq6 rfl (by omega) (by omega) dX10_check_57 (fun v7 ev7 lv7 uv7 => ?_)
        refine lv_aload_n hx hb dX10_check_58 rfl (lv_at hl_44 0 rfl) ?_
        refine lv_iload_n hx hb dX10_check_59 rfl (lv_at hl_44 1 rfl) ?_
        refine tc_vi Z.1 Z.2.2.2.1 Z.2.2.2.2.1 Z.2.2.2.2.2 S_44.1 S_44.2 ha0 ta0 rfl rfl (k_X10_numberOf l D cy S_44.2 ha0 ta0 x1_44 (by omega) (by omega)) (cwV 1 hts gX10_check_X10_numberOf rfl rfl rfl (by decide +kernel) ⟨Nat.le_of_ble_eq_true rfl, Nat.le_of_ble_eq_true rfl⟩) rfl hl_44.1 rfl (Nat.le_of_ble_eq_true rfl) dX10_check_60 ⟨Nat.zero_le _, Nat.zero_le _⟩ (fun v11 E8 H9 k10 W8 I8 G8 p8 => ?_)
        have q8 := p8
        have q8 := q8.symm
        subst q8
        have S8 : Now D TB cy (va_A (va_pl L E) sz) s L τ E_44 H9 k10 := ⟨W8, I8⟩
        refine lv_icmp_eq (tgt := 68) hx hb dX10_check_63 (by decide) (fun c12 => ?_) (fun c12 => ?_)
        · skip
          have tc12 := nu_eq c12
          obtain ⟨v13, ev13⟩ : ∃ y : Int32, x1_44 + Int32.ofInt (1) = y := ⟨_, rfl⟩
          have tv13 : v13.toInt = x1_44.toInt + (1) := by rw [← ev13]; exact (fb_addI (by rw [show (Int32.ofInt (1)).toInt = 1 from by decide +kernel]; omega) (by rw [show (Int32.ofInt (1)).toInt = 1 from by decide +kernel]; omega)).trans (by rw [show (Int32.ofInt (1)).toInt = 1 from by decide +kernel])
          refine lv_iinc (v := v13) (lv' := [(1, .int v13), (0, .ref a0)]) hx hb dX10_check_68 hl_44 (k := 1) rfl ev13 (by decide) rfl (fun l14 hl15 => ?_)
          refine lv_goto (tgt := 44) hx hb dX10_check_71 (by decide) ?_
          exact ih_44 v13 E_44 H9 k10 l14 S8 F_44 (by omega) (by omega) (by omega) (lv_sub hl15 [1, 0] rfl)
        · skip
          have tc12 := nu_ne c12
          refine lv_iload_n hx hb dX10_check_66 rfl (lv_at hl_44 1 rfl) ?_
          rw [← hQ]
          exact en_i Z S8 F_44 trivial dX10_check_67
  refine lv_aload_n hx hb dX10_check_0 rfl (lv_at hl 0 rfl) ?_
  obtain ⟨v16, ev16, tv16⟩ : ∃ v : Int32, Int32.ofInt (0) = v ∧ v.toInt = 0 := ⟨_, rfl, by decide +kernel⟩
  refine lv_iconst hx hb dX10_check_1 ev16 ?_
  refine tr_puti Z.1 Z.2.2.2.1 S0.1 S0.2 ha0 ta0 rfl rfl (fun _ h => List.mem_cons_of_mem _ (List.mem_append_right _ h)) tyX10_ok nmX10 4 (by decide) rfl rfl rfl (hts _ (List.mem_of_getElem? (i := 1) rfl)) dX10_check_2 (by omega) (by omega) (fun E17 H18 k19 W17 I17 P17 => ?_)
  have S17 : Now D TB cy (va_A (va_pl L E) sz) s L τ E17 H18 k19 := ⟨W17, I17⟩
  have F17 : Fr L τ (inW [(11, 0), (63, 0), (64, 0), (65, 0), (66, 0), (67, 0), (68, 0), (69, 0), (70, 0), (71, 0), (62, 0)]) E E17 := Fr.put F0_ P17 ta0 rfl
  refine lv_aload_n hx hb dX10_check_5 rfl (lv_at hl 0 rfl) ?_
  refine tr_geti Z.1 Z.2.2.2.1 S17.1 S17.2 ha0 ta0 rfl rfl (fun _ h => List.mem_cons_of_mem _ (List.mem_append_right _ h)) 47 (by decide) rfl (hts _ (List.mem_of_getElem? (i := 2) rfl)) dX10_check_6 (fun v20 ev20 lv20 uv20 => ?_)
  refine lv_if_ne (tgt := 18) hx hb dX10_check_9 (by decide) (fun c21 => ?_) (fun c21 => ?_)
  · skip
    have tc21 := nu_ne c21
    have uc21 : (0 : Int32).toInt = 0 := rfl
    refine lv_aload_n hx hb dX10_check_18 rfl (lv_at hl 0 rfl) ?_
    refine tc_vv Z.1 Z.2.2.2.1 Z.2.2.2.2.1 Z.2.2.2.2.2 S17.1 S17.2 ha0 ta0 rfl rfl (k_X10_good l D cy S17.2 ha0 ta0) (cwV 0 hts gX10_check_X10_good rfl rfl rfl (by decide +kernel) ⟨Nat.le_of_ble_eq_true rfl, Nat.le_of_ble_eq_true rfl⟩) rfl hl.1 rfl (Nat.le_of_ble_eq_true rfl) dX10_check_19 ⟨Nat.zero_le _, Nat.zero_le _⟩ (fun E22 H23 k24 W22 I22 G22 p22 => ?_)
    have p22_0 := p22
    have S22 : Now D TB cy (va_A (va_pl L E) sz) s L τ E22 H23 k24 := ⟨W22, I22⟩
    have F22 : Fr L τ (inW [(11, 0), (63, 0), (64, 0), (65, 0), (66, 0), (67, 0), (68, 0), (69, 0), (70, 0), (71, 0), (62, 0)]) E E22 := F17.trans (G22.mono (inW_mono (by decide)))
    refine lv_aload_n hx hb dX10_check_22 rfl (lv_at hl 0 rfl) ?_
    refine tc_vv Z.1 Z.2.2.2.1 Z.2.2.2.2.1 Z.2.2.2.2.2 S22.1 S22.2 ha0 ta0 rfl rfl (k_X10_asTold l D cy S22.2 ha0 ta0) (cwV 0 hts gX10_check_X10_asTold rfl rfl rfl (by decide +kernel) ⟨Nat.le_of_ble_eq_true rfl, Nat.le_of_ble_eq_true rfl⟩) rfl hl.1 rfl (Nat.le_of_ble_eq_true rfl) dX10_check_23 ⟨Nat.zero_le _, Nat.zero_le _⟩ (fun E26 H27 k28 W26 I26 G26 p26 => ?_)
    have S26 : Now D TB cy (va_A (va_pl L E) sz) s L τ E26 H27 k28 := ⟨W26, I26⟩
    have F26 : Fr L τ (inW [(11, 0), (63, 0), (64, 0), (65, 0), (66, 0), (67, 0), (68, 0), (69, 0), (70, 0), (71, 0), (62, 0)]) E E26 := F22.trans (G26.mono (inW_mono (by decide)))
    refine lv_aload_n hx hb dX10_check_26 rfl (lv_at hl 0 rfl) ?_
    refine tr_geti Z.1 Z.2.2.2.1 S26.1 S26.2 ha0 ta0 rfl rfl (fun _ h => List.mem_cons_of_mem _ (List.mem_append_right _ h)) 47 (by decide) rfl (hts _ (List.mem_of_getElem? (i := 2) rfl)) dX10_check_27 (fun v30 ev30 lv30 uv30 => ?_)
    obtain ⟨v31, ev31, tv31⟩ : ∃ v : Int32, Int32.ofInt (4) = v ∧ v.toInt = 4 := ⟨_, rfl, by decide +kernel⟩
    refine lv_iconst hx hb dX10_check_30 ev31 ?_
    refine lv_aload_n hx hb dX10_check_31 rfl (lv_at hl 0 rfl) ?_
    refine tr_geti Z.1 Z.2.2.2.1 S26.1 S26.2 ha0 ta0 rfl rfl (fun _ h => List.mem_cons_of_mem _ (List.mem_append_right _ h)) 8 (by decide) rfl (hts _ (List.mem_of_getElem? (i := 3) rfl)) dX10_check_32 (fun v32 ev32 lv32 uv32 => ?_)
    refine lv_imul hx hb dX10_check_35 ?_
    refine lv_topi (fun v33 ev33 => ?_)
    have tv33 := nu_mulc' (4) ev33 (by omega) (by omega) (by omega)
    refine lv_icmp_eq (tgt := 42) hx hb dX10_check_36 (by decide) (fun c34 => ?_) (fun c34 => ?_)
    · skip
      have tc34 := nu_eq c34
      obtain ⟨v35, ev35, tv35⟩ : ∃ v : Int32, Int32.ofInt (0) = v ∧ v.toInt = 0 := ⟨_, rfl, by decide +kernel⟩
      refine lv_iconst hx hb dX10_check_42 ev35 ?_
      refine lv_istore_n (lv' := [(1, .int v35), (0, .ref a0)]) hx hb dX10_check_43 rfl hl (by decide) rfl (fun l36 hl37 => ?_)
      exact J44 _ v35 E26 H27 k28 l36 S26 F26 (by omega) (by omega) (Nat.lt_succ_self _) (lv_sub hl37 [1, 0] rfl)
    · skip
      have tc34 := nu_ne c34
      obtain ⟨v38, ev38, tv38⟩ : ∃ v : Int32, (Int8.ofInt (-3)).toInt32 = v ∧ v.toInt = -3 := ⟨_, rfl, by decide +kernel⟩
      refine lv_bipush hx hb dX10_check_39 ev38 ?_
      rw [← hQ]
      exact en_i Z S26 F26 trivial dX10_check_41
  · skip
    have tc21 := nu_eq c21
    have uc21 : (0 : Int32).toInt = 0 := rfl
    refine lv_aload_n hx hb dX10_check_12 rfl (lv_at hl 0 rfl) ?_
    obtain ⟨v39, ev39, tv39⟩ : ∃ v : Int32, Int32.ofInt (5) = v ∧ v.toInt = 5 := ⟨_, rfl, by decide +kernel⟩
    refine lv_iconst hx hb dX10_check_13 ev39 ?_
    refine tc_vi Z.1 Z.2.2.2.1 Z.2.2.2.2.1 Z.2.2.2.2.2 S17.1 S17.2 ha0 ta0 rfl rfl (k_X10_no l D cy S17.2 ha0 ta0 v39) (cwV 1 hts gX10_check_X10_no rfl rfl rfl (by decide +kernel) ⟨Nat.le_of_ble_eq_true rfl, Nat.le_of_ble_eq_true rfl⟩) rfl hl.1 rfl (Nat.le_of_ble_eq_true rfl) dX10_check_14 ⟨Nat.zero_le _, Nat.zero_le _⟩ (fun v43 E40 H41 k42 W40 I40 G40 p40 => ?_)
    obtain ⟨p40_0, p40_1, p40_2⟩ := p40
    have S40 : Now D TB cy (va_A (va_pl L E) sz) s L τ E40 H41 k42 := ⟨W40, I40⟩
    have F40 : Fr L τ (inW [(11, 0), (63, 0), (64, 0), (65, 0), (66, 0), (67, 0), (68, 0), (69, 0), (70, 0), (71, 0), (62, 0)]) E E40 := F17.trans (G40.mono (inW_mono (by decide)))
    rw [← hQ]
    exact en_i Z S40 F40 trivial dX10_check_17

set_option maxRecDepth 20000 in
theorem ggX10_flight_X10_in : GoodIn wsX10_flight wsX10_in := goodIn_r _ [7] (by decide +kernel) (by decide +kernel)
set_option maxRecDepth 20000 in
theorem gX10_flight_X10_in : GoodIn wsX10_flight (wsV RX10 123 RX10 yX10_in wsX10_in) := goodIn_app (goodIn_of _ (by decide +kernel)) ggX10_flight_X10_in
set_option maxRecDepth 20000 in
theorem ggX10_flight_X10_not : GoodIn wsX10_flight wsX10_not := goodIn_r _ [11, 12, 13, 24, 25, 26, 27, 28, 29, 30, 31, 32, 33, 34, 35, 36, 37, 38, 39, 40, 41, 42, 43, 44, 45, 46, 47, 48, 49, 50, 51, 52, 53, 54, 55, 56, 57, 58, 59, 60, 61, 62, 63, 64, 65, 66, 67, 68, 69, 70, 71] (by decide +kernel) (by decide +kernel)
set_option maxRecDepth 20000 in
theorem gX10_flight_X10_not : GoodIn wsX10_flight (wsV RX10 127 RX10 yX10_not wsX10_not) := goodIn_app (goodIn_of _ (by decide +kernel)) ggX10_flight_X10_not
set_option maxRecDepth 20000 in
theorem ggX10_flight_X10_act : GoodIn wsX10_flight wsX10_act := goodIn_r _ [17, 18, 19, 2, 20, 21, 22, 6, 23, 12, 13, 24, 25, 26, 27, 28, 29, 30, 31, 32, 33, 34, 35, 36, 37, 38, 39, 40, 41, 42, 43, 44, 45, 46, 47, 48, 49, 50, 51, 52, 53, 54, 55, 56, 57, 58, 59, 60, 61, 62, 63, 64, 65, 66, 67, 68, 69, 70, 71] (by decide +kernel) (by decide +kernel)
set_option maxRecDepth 20000 in
theorem gX10_flight_X10_act : GoodIn wsX10_flight (wsV RX10 131 RX10 yX10_act wsX10_act) := goodIn_app (goodIn_of _ (by decide +kernel)) ggX10_flight_X10_act
theorem dX10_flight_0 : decode cX10_flight 0 = .ok (.aload_n 0, 1) := by decide +kernel
theorem dX10_flight_1 : decode cX10_flight 1 = .ok (.iconst 0, 1) := by decide +kernel
theorem dX10_flight_2 : decode cX10_flight 2 = .ok (.putfield 97, 3) := by decide +kernel
theorem dX10_flight_5 : decode cX10_flight 5 = .ok (.aload_n 0, 1) := by decide +kernel
theorem dX10_flight_6 : decode cX10_flight 6 = .ok (.iload_n 1, 1) := by decide +kernel
theorem dX10_flight_7 : decode cX10_flight 7 = .ok (.iconst 0, 1) := by decide +kernel
theorem dX10_flight_8 : decode cX10_flight 8 = .ok (.aload_n 0, 1) := by decide +kernel
theorem dX10_flight_9 : decode cX10_flight 9 = .ok (.getfield 7, 3) := by decide +kernel
theorem dX10_flight_12 : decode cX10_flight 12 = .ok (.iconst 4, 1) := by decide +kernel
theorem dX10_flight_13 : decode cX10_flight 13 = .ok (.iaload, 1) := by decide +kernel
theorem dX10_flight_14 : decode cX10_flight 14 = .ok (.iconst 1, 1) := by decide +kernel
theorem dX10_flight_15 : decode cX10_flight 15 = .ok (.isub, 1) := by decide +kernel
theorem dX10_flight_16 : decode cX10_flight 16 = .ok (.invokevirtual 123, 3) := by decide +kernel
theorem dX10_flight_19 : decode cX10_flight 19 = .ok (.ifCond .ne 9, 3) := by decide +kernel
theorem dX10_flight_22 : decode cX10_flight 22 = .ok (.aload_n 0, 1) := by decide +kernel
theorem dX10_flight_23 : decode cX10_flight 23 = .ok (.iconst 4, 1) := by decide +kernel
theorem dX10_flight_24 : decode cX10_flight 24 = .ok (.invokevirtual 127, 3) := by decide +kernel
theorem dX10_flight_27 : decode cX10_flight 27 = .ok (.ireturn, 1) := by decide +kernel
theorem dX10_flight_28 : decode cX10_flight 28 = .ok (.iload_n 2, 1) := by decide +kernel
theorem dX10_flight_29 : decode cX10_flight 29 = .ok (.istore 4, 2) := by decide +kernel
theorem dX10_flight_31 : decode cX10_flight 31 = .ok (.iconst 0, 1) := by decide +kernel
theorem dX10_flight_32 : decode cX10_flight 32 = .ok (.istore 5, 2) := by decide +kernel
theorem dX10_flight_34 : decode cX10_flight 34 = .ok (.iload 5, 2) := by decide +kernel
theorem dX10_flight_36 : decode cX10_flight 36 = .ok (.aload_n 0, 1) := by decide +kernel
theorem dX10_flight_37 : decode cX10_flight 37 = .ok (.getfield 7, 3) := by decide +kernel
theorem dX10_flight_40 : decode cX10_flight 40 = .ok (.iconst 4, 1) := by decide +kernel
theorem dX10_flight_41 : decode cX10_flight 41 = .ok (.iaload, 1) := by decide +kernel
theorem dX10_flight_42 : decode cX10_flight 42 = .ok (.if_icmp .ge 33, 3) := by decide +kernel
theorem dX10_flight_45 : decode cX10_flight 45 = .ok (.iload 4, 2) := by decide +kernel
theorem dX10_flight_47 : decode cX10_flight 47 = .ok (.iload 5, 2) := by decide +kernel
theorem dX10_flight_49 : decode cX10_flight 49 = .ok (.iload_n 1, 1) := by decide +kernel
theorem dX10_flight_50 : decode cX10_flight 50 = .ok (.if_icmp .ne 7, 3) := by decide +kernel
theorem dX10_flight_53 : decode cX10_flight 53 = .ok (.iconst 0, 1) := by decide +kernel
theorem dX10_flight_54 : decode cX10_flight 54 = .ok (.goto 12, 3) := by decide +kernel
theorem dX10_flight_57 : decode cX10_flight 57 = .ok (.aload_n 0, 1) := by decide +kernel
theorem dX10_flight_58 : decode cX10_flight 58 = .ok (.getfield 7, 3) := by decide +kernel
theorem dX10_flight_61 : decode cX10_flight 61 = .ok (.iconst 5, 1) := by decide +kernel
theorem dX10_flight_62 : decode cX10_flight 62 = .ok (.iload 5, 2) := by decide +kernel
theorem dX10_flight_64 : decode cX10_flight 64 = .ok (.iadd, 1) := by decide +kernel
theorem dX10_flight_65 : decode cX10_flight 65 = .ok (.iaload, 1) := by decide +kernel
theorem dX10_flight_66 : decode cX10_flight 66 = .ok (.iadd, 1) := by decide +kernel
theorem dX10_flight_67 : decode cX10_flight 67 = .ok (.istore 4, 2) := by decide +kernel
theorem dX10_flight_69 : decode cX10_flight 69 = .ok (.iinc 5 1, 3) := by decide +kernel
theorem dX10_flight_72 : decode cX10_flight 72 = .ok (.goto (-38), 3) := by decide +kernel
theorem dX10_flight_75 : decode cX10_flight 75 = .ok (.aload_n 0, 1) := by decide +kernel
theorem dX10_flight_76 : decode cX10_flight 76 = .ok (.iload_n 2, 1) := by decide +kernel
theorem dX10_flight_77 : decode cX10_flight 77 = .ok (.iconst 0, 1) := by decide +kernel
theorem dX10_flight_78 : decode cX10_flight 78 = .ok (.bipush 20, 2) := by decide +kernel
theorem dX10_flight_80 : decode cX10_flight 80 = .ok (.invokevirtual 123, 3) := by decide +kernel
theorem dX10_flight_83 : decode cX10_flight 83 = .ok (.ifCond .eq 20, 3) := by decide +kernel
theorem dX10_flight_86 : decode cX10_flight 86 = .ok (.aload_n 0, 1) := by decide +kernel
theorem dX10_flight_87 : decode cX10_flight 87 = .ok (.iload_n 3, 1) := by decide +kernel
theorem dX10_flight_88 : decode cX10_flight 88 = .ok (.iconst 0, 1) := by decide +kernel
theorem dX10_flight_89 : decode cX10_flight 89 = .ok (.sipush 6000, 3) := by decide +kernel
theorem dX10_flight_92 : decode cX10_flight 92 = .ok (.invokevirtual 123, 3) := by decide +kernel
theorem dX10_flight_95 : decode cX10_flight 95 = .ok (.ifCond .eq 8, 3) := by decide +kernel
theorem dX10_flight_98 : decode cX10_flight 98 = .ok (.iload 4, 2) := by decide +kernel
theorem dX10_flight_100 : decode cX10_flight 100 = .ok (.ifCond .ne 9, 3) := by decide +kernel
theorem dX10_flight_103 : decode cX10_flight 103 = .ok (.aload_n 0, 1) := by decide +kernel
theorem dX10_flight_104 : decode cX10_flight 104 = .ok (.iconst 1, 1) := by decide +kernel
theorem dX10_flight_105 : decode cX10_flight 105 = .ok (.invokevirtual 127, 3) := by decide +kernel
theorem dX10_flight_108 : decode cX10_flight 108 = .ok (.ireturn, 1) := by decide +kernel
theorem dX10_flight_109 : decode cX10_flight 109 = .ok (.aload_n 0, 1) := by decide +kernel
theorem dX10_flight_110 : decode cX10_flight 110 = .ok (.invokevirtual 131, 3) := by decide +kernel
theorem dX10_flight_113 : decode cX10_flight 113 = .ok (.aload_n 0, 1) := by decide +kernel
theorem dX10_flight_114 : decode cX10_flight 114 = .ok (.getfield 7, 3) := by decide +kernel
theorem dX10_flight_117 : decode cX10_flight 117 = .ok (.iconst 5, 1) := by decide +kernel
theorem dX10_flight_118 : decode cX10_flight 118 = .ok (.iload_n 1, 1) := by decide +kernel
theorem dX10_flight_119 : decode cX10_flight 119 = .ok (.iadd, 1) := by decide +kernel
theorem dX10_flight_120 : decode cX10_flight 120 = .ok (.iload_n 2, 1) := by decide +kernel
theorem dX10_flight_121 : decode cX10_flight 121 = .ok (.iastore, 1) := by decide +kernel
theorem dX10_flight_122 : decode cX10_flight 122 = .ok (.aload_n 0, 1) := by decide +kernel
theorem dX10_flight_123 : decode cX10_flight 123 = .ok (.getfield 7, 3) := by decide +kernel
theorem dX10_flight_126 : decode cX10_flight 126 = .ok (.bipush 8, 2) := by decide +kernel
theorem dX10_flight_128 : decode cX10_flight 128 = .ok (.iload_n 1, 1) := by decide +kernel
theorem dX10_flight_129 : decode cX10_flight 129 = .ok (.iadd, 1) := by decide +kernel
theorem dX10_flight_130 : decode cX10_flight 130 = .ok (.iload_n 3, 1) := by decide +kernel
theorem dX10_flight_131 : decode cX10_flight 131 = .ok (.iastore, 1) := by decide +kernel
theorem dX10_flight_132 : decode cX10_flight 132 = .ok (.iconst 1, 1) := by decide +kernel
theorem dX10_flight_133 : decode cX10_flight 133 = .ok (.ireturn, 1) := by decide +kernel
set_option maxHeartbeats 4000000 in
set_option maxRecDepth 100000 in
theorem k_X10_flight (l : Launch) (D : va_G) (cy : Nat → ClassId) {L : List Nat} {τ : Nat → Ro} {E : Ec} (hI : Inv TB cy L τ E) {a0 : Nat} (ha0 : a0 ∈ L) (ta0 : τ a0 = (11, 0)) (a1 : Int32) (a2 : Int32) (a3 : Int32) : CtI l yX10_flight wsX10_flight { frames := 2, cells := 0, slots := 0, locals := 41 } D TB cy L τ E [.ref a0, .int a1, .int a2, .int a3] (inW [(11, 0), (60, 0), (61, 0)]) (fun r E' => 0 ≤ r.toInt ∧ r.toInt ≤ 1) := by
  intro sz
  refine sta (cc := cX10_flight) (maxL := 6) hI (by decide) rfl (Nat.le_of_ble_eq_true rfl) (fun p e s m args below meth c ls hsz Z S0 hl => ?_)
  have hx := Z.1.1
  have hb := Z.1.2.1
  have hts := Z.1.2.2.2.2
  have F0_ : Fr L τ (inW [(11, 0), (60, 0), (61, 0)]) E E := Fr.refl
  have hl : lv_has ls 6 [(0, .ref a0), (1, .int a1), (2, .int a2), (3, .int a3)] := hl
  generalize hQ : MQ below _ args s 0 0 _ = QQ
  have J103 : ∀  (E_103 : Ec) (H_103 : Heap) (k_103 : List Loc) (l_103 : Array Slot), Now D TB cy (va_A (va_pl L E) sz) s L τ E_103 H_103 k_103 → Fr L τ (inW [(11, 0), (60, 0), (61, 0)]) E E_103 → lv_has l_103 6 [(0, .ref a0)] → W p l e { frames := 2, cells := 0, slots := 0, locals := 41 } s m args below meth c H_103 k_103 0 0 QQ (F0 m 103 l_103 []) := by
    intro  E_103 H_103 k_103 l_103 S_103 F_103  hl_103
    refine lv_aload_n hx hb dX10_flight_103 rfl (lv_at hl_103 0 rfl) ?_
    obtain ⟨v1, ev1, tv1⟩ : ∃ v : Int32, Int32.ofInt (1) = v ∧ v.toInt = 1 := ⟨_, rfl, by decide +kernel⟩
    refine lv_iconst hx hb dX10_flight_104 ev1 ?_
    refine tc_vi Z.1 Z.2.2.2.1 Z.2.2.2.2.1 Z.2.2.2.2.2 S_103.1 S_103.2 ha0 ta0 rfl rfl (k_X10_not l D cy S_103.2 ha0 ta0 v1) (cwV 1 hts gX10_flight_X10_not rfl rfl rfl (by decide +kernel) ⟨Nat.le_of_ble_eq_true rfl, Nat.le_of_ble_eq_true rfl⟩) rfl hl_103.1 rfl (Nat.le_of_ble_eq_true rfl) dX10_flight_105 ⟨Nat.zero_le _, Nat.zero_le _⟩ (fun v5 E2 H3 k4 W2 I2 G2 p2 => ?_)
    obtain ⟨p2_0, p2_1, p2_2⟩ := p2
    have S2 : Now D TB cy (va_A (va_pl L E) sz) s L τ E2 H3 k4 := ⟨W2, I2⟩
    have F2 : Fr L τ (inW [(11, 0), (60, 0), (61, 0)]) E E2 := F_103.trans (G2.mono (inW_mono (by decide)))
    rw [← hQ]
    exact en_z Z S2 F2 (zo v5 (by omega)) ⟨(by omega), (by omega)⟩ dX10_flight_108
  have J34 : ∀ (n : Nat) (x4_34 : Int32) (x5_34 : Int32) (E_34 : Ec) (H_34 : Heap) (k_34 : List Loc) (l_34 : Array Slot), Now D TB cy (va_A (va_pl L E) sz) s L τ E_34 H_34 k_34 → Fr L τ (inW [(11, 0), (60, 0), (61, 0)]) E E_34 → (0 ≤ a1.toInt) → (a1.toInt ≤ 2) → (0 ≤ x5_34.toInt) → (x5_34.toInt ≤ 3) → (3 - x5_34.toInt).toNat < n → lv_has l_34 6 [(0, .ref a0), (1, .int a1), (2, .int a2), (3, .int a3), (4, .int x4_34), (5, .int x5_34)] → W p l e { frames := 2, cells := 0, slots := 0, locals := 41 } s m args below meth c H_34 k_34 0 0 QQ (F0 m 34 l_34 []) := by
    intro n
    induction n with
    | zero => intro x4_34 x5_34 E_34 H_34 k_34 l_34 S_34 F_34 z6 z7 z8 z9 hm hl_34; exact absurd hm (Nat.not_lt_zero _)
    | succ n ih =>
      intro x4_34 x5_34 E_34 H_34 k_34 l_34 S_34 F_34 z6 z7 z8 z9 hm hl_34
      have ih_34 := ih
      have J66 : ∀ (y0_66 : Int32) (y1_66 : Int32) (E_66 : Ec) (H_66 : Heap) (k_66 : List Loc) (l_66 : Array Slot), Now D TB cy (va_A (va_pl L E) sz) s L τ E_66 H_66 k_66 → Fr L τ (inW [(11, 0), (60, 0), (61, 0)]) E E_66 → (0 ≤ a1.toInt) → (a1.toInt ≤ 2) → (0 ≤ x5_34.toInt) → (x5_34.toInt ≤ 2) → (0 ≤ y1_66.toInt) → (y1_66.toInt ≤ 20) → lv_has l_66 6 [(0, .ref a0), (1, .int a1), (2, .int a2), (3, .int a3), (5, .int x5_34)] → W p l e { frames := 2, cells := 0, slots := 0, locals := 41 } s m args below meth c H_66 k_66 0 0 QQ (F0 m 66 l_66 [.int y1_66, .int y0_66]) := by
        intro y0_66 y1_66 E_66 H_66 k_66 l_66 S_66 F_66 z10 z11 z12 z13 z14 z15 hl_66
        refine lv_iadd hx hb dX10_flight_66 ?_
        refine lv_topi (fun v16 ev16 => ?_)
        refine lv_istore (lv' := [(4, .int v16), (0, .ref a0), (1, .int a1), (2, .int a2), (3, .int a3), (5, .int x5_34)]) hx hb dX10_flight_67 hl_66 (by decide) rfl (fun l17 hl18 => ?_)
        obtain ⟨v19, ev19⟩ : ∃ y : Int32, x5_34 + Int32.ofInt (1) = y := ⟨_, rfl⟩
        have tv19 : v19.toInt = x5_34.toInt + (1) := by rw [← ev19]; exact (fb_addI (by rw [show (Int32.ofInt (1)).toInt = 1 from by decide +kernel]; omega) (by rw [show (Int32.ofInt (1)).toInt = 1 from by decide +kernel]; omega)).trans (by rw [show (Int32.ofInt (1)).toInt = 1 from by decide +kernel])
        refine lv_iinc (v := v19) (lv' := [(5, .int v19), (4, .int v16), (0, .ref a0), (1, .int a1), (2, .int a2), (3, .int a3)]) hx hb dX10_flight_69 hl18 (k := 5) rfl ev19 (by decide) rfl (fun l20 hl21 => ?_)
        refine lv_goto (tgt := 34) hx hb dX10_flight_72 (by decide) ?_
        exact ih_34 v16 v19 E_66 H_66 k_66 l20 S_66 F_66 (by have := fb_rng v16; have := fb_rng a2; have := fb_rng a3; omega) (by have := fb_rng v16; have := fb_rng a2; have := fb_rng a3; omega) (by have := fb_rng v16; have := fb_rng a2; have := fb_rng a3; omega) (by have := fb_rng v16; have := fb_rng a2; have := fb_rng a3; omega) (by omega) (lv_sub hl21 [2, 3, 4, 5, 1, 0] rfl)
      refine lv_iload hx hb dX10_flight_34 (lv_at hl_34 5 rfl) ?_
      refine lv_aload_n hx hb dX10_flight_36 rfl (lv_at hl_34 0 rfl) ?_
      refine tr_getr Z.1 Z.2.2.2.1 S_34.1 S_34.2 ha0 ta0 rfl rfl (fun _ h => List.mem_cons_of_mem _ (List.mem_append_right _ h)) 0 (by decide) rfl (hts _ (List.mem_of_getElem? (i := 2) rfl)) dX10_flight_37 (fun q22 eq22 hq22 tq22 => ?_)
      have tq22 : τ q22 = (60, 0) := tq22
      obtain ⟨v23, ev23, tv23⟩ : ∃ v : Int32, Int32.ofInt (4) = v ∧ v.toInt = 4 := ⟨_, rfl, by decide +kernel⟩
      refine lv_iconst hx hb dX10_flight_40 ev23 ?_
      refine tr_ialdx Z.1 Z.2.2.2.1 S_34.1 S_34.2 hq22 tq22 rfl (by omega) (by omega) dX10_flight_41 (fun v24 ev24 lv24 uv24 => ?_)
      have bv24 : nowB v23.toNatClampNeg = (0, 3) := nb_4 (by show v23.toInt.toNat = 4; omega)
      rw [bv24] at lv24 uv24
      have lv24 : 0 ≤ v24.toInt := lv24
      have uv24 : v24.toInt ≤ 3 := uv24
      have av24 : ai E_34 q22 4 = v24 := ai_at ev24 (by omega)
      refine lv_icmp_ge (tgt := 75) hx hb dX10_flight_42 (by decide) (fun c25 => ?_) (fun c25 => ?_)
      · skip
        have tc25 := nu_le c25
        refine lv_aload_n hx hb dX10_flight_75 rfl (lv_at hl_34 0 rfl) ?_
        refine lv_iload_n hx hb dX10_flight_76 rfl (lv_at hl_34 2 rfl) ?_
        obtain ⟨v26, ev26, tv26⟩ : ∃ v : Int32, Int32.ofInt (0) = v ∧ v.toInt = 0 := ⟨_, rfl, by decide +kernel⟩
        refine lv_iconst hx hb dX10_flight_77 ev26 ?_
        obtain ⟨v27, ev27, tv27⟩ : ∃ v : Int32, (Int8.ofInt (20)).toInt32 = v ∧ v.toInt = 20 := ⟨_, rfl, by decide +kernel⟩
        refine lv_bipush hx hb dX10_flight_78 ev27 ?_
        refine tc_vi Z.1 Z.2.2.2.1 Z.2.2.2.2.1 Z.2.2.2.2.2 S_34.1 S_34.2 ha0 ta0 rfl rfl (k_X10_in l D cy S_34.2 ha0 ta0 a2 v26 v27) (cwV 3 hts gX10_flight_X10_in rfl rfl rfl (by decide +kernel) ⟨Nat.le_of_ble_eq_true rfl, Nat.le_of_ble_eq_true rfl⟩) rfl hl_34.1 rfl (Nat.le_of_ble_eq_true rfl) dX10_flight_80 ⟨Nat.zero_le _, Nat.zero_le _⟩ (fun v31 E28 H29 k30 W28 I28 G28 p28 => ?_)
        obtain ⟨q28, p28_0, p28_1, p28_2⟩ := p28
        have q28 := q28.symm
        subst q28
        have S28 : Now D TB cy (va_A (va_pl L E) sz) s L τ E_34 H29 k30 := ⟨W28, I28⟩
        refine lv_if_eq (tgt := 103) hx hb dX10_flight_83 (by decide) (fun c32 => ?_) (fun c32 => ?_)
        · skip
          have tc32 := nu_eq c32
          have uc32 : (0 : Int32).toInt = 0 := rfl
          exact J103 E_34 H29 k30 l_34 S28 F_34 (lv_sub hl_34 [0] rfl)
        · skip
          have tc32 := nu_ne c32
          have uc32 : (0 : Int32).toInt = 0 := rfl
          refine lv_aload_n hx hb dX10_flight_86 rfl (lv_at hl_34 0 rfl) ?_
          refine lv_iload_n hx hb dX10_flight_87 rfl (lv_at hl_34 3 rfl) ?_
          obtain ⟨v33, ev33, tv33⟩ : ∃ v : Int32, Int32.ofInt (0) = v ∧ v.toInt = 0 := ⟨_, rfl, by decide +kernel⟩
          refine lv_iconst hx hb dX10_flight_88 ev33 ?_
          obtain ⟨v34, ev34, tv34⟩ : ∃ v : Int32, (Int16.ofInt (6000)).toInt32 = v ∧ v.toInt = 6000 := ⟨_, rfl, by decide +kernel⟩
          refine lv_sipush hx hb dX10_flight_89 ev34 ?_
          refine tc_vi Z.1 Z.2.2.2.1 Z.2.2.2.2.1 Z.2.2.2.2.2 S28.1 S28.2 ha0 ta0 rfl rfl (k_X10_in l D cy S28.2 ha0 ta0 a3 v33 v34) (cwV 3 hts gX10_flight_X10_in rfl rfl rfl (by decide +kernel) ⟨Nat.le_of_ble_eq_true rfl, Nat.le_of_ble_eq_true rfl⟩) rfl hl_34.1 rfl (Nat.le_of_ble_eq_true rfl) dX10_flight_92 ⟨Nat.zero_le _, Nat.zero_le _⟩ (fun v38 E35 H36 k37 W35 I35 G35 p35 => ?_)
          obtain ⟨q35, p35_0, p35_1, p35_2⟩ := p35
          have q35 := q35.symm
          subst q35
          have S35 : Now D TB cy (va_A (va_pl L E) sz) s L τ E_34 H36 k37 := ⟨W35, I35⟩
          refine lv_if_eq (tgt := 103) hx hb dX10_flight_95 (by decide) (fun c39 => ?_) (fun c39 => ?_)
          · skip
            have tc39 := nu_eq c39
            have uc39 : (0 : Int32).toInt = 0 := rfl
            exact J103 E_34 H36 k37 l_34 S35 F_34 (lv_sub hl_34 [0] rfl)
          · skip
            have tc39 := nu_ne c39
            have uc39 : (0 : Int32).toInt = 0 := rfl
            refine lv_iload hx hb dX10_flight_98 (lv_at hl_34 4 rfl) ?_
            refine lv_if_ne (tgt := 109) hx hb dX10_flight_100 (by decide) (fun c40 => ?_) (fun c40 => ?_)
            · skip
              have tc40 := nu_ne c40
              have uc40 : (0 : Int32).toInt = 0 := rfl
              refine lv_aload_n hx hb dX10_flight_109 rfl (lv_at hl_34 0 rfl) ?_
              refine tc_vv Z.1 Z.2.2.2.1 Z.2.2.2.2.1 Z.2.2.2.2.2 S35.1 S35.2 ha0 ta0 rfl rfl (k_X10_act l D cy S35.2 ha0 ta0) (cwV 0 hts gX10_flight_X10_act rfl rfl rfl (by decide +kernel) ⟨Nat.le_of_ble_eq_true rfl, Nat.le_of_ble_eq_true rfl⟩) rfl hl_34.1 rfl (Nat.le_of_ble_eq_true rfl) dX10_flight_110 ⟨Nat.zero_le _, Nat.zero_le _⟩ (fun E41 H42 k43 W41 I41 G41 p41 => ?_)
              have p41_0 := p41
              have S41 : Now D TB cy (va_A (va_pl L E) sz) s L τ E41 H42 k43 := ⟨W41, I41⟩
              have F41 : Fr L τ (inW [(11, 0), (60, 0), (61, 0)]) E E41 := F_34.trans (G41.mono (inW_mono (by decide)))
              refine lv_aload_n hx hb dX10_flight_113 rfl (lv_at hl_34 0 rfl) ?_
              refine tr_getr Z.1 Z.2.2.2.1 S41.1 S41.2 ha0 ta0 rfl rfl (fun _ h => List.mem_cons_of_mem _ (List.mem_append_right _ h)) 0 (by decide) rfl (hts _ (List.mem_of_getElem? (i := 2) rfl)) dX10_flight_114 (fun q45 eq45 hq45 tq45 => ?_)
              have tq45 : τ q45 = (60, 0) := tq45
              have uq45 : q22 = q45 := S41.2.2.2.2 _ hq22 _ hq45 (tq22.trans tq45.symm) (by rw [tq22]; rfl)
              subst uq45
              obtain ⟨v46, ev46, tv46⟩ : ∃ v : Int32, Int32.ofInt (5) = v ∧ v.toInt = 5 := ⟨_, rfl, by decide +kernel⟩
              refine lv_iconst hx hb dX10_flight_117 ev46 ?_
              refine lv_iload_n hx hb dX10_flight_118 rfl (lv_at hl_34 1 rfl) ?_
              refine lv_iadd hx hb dX10_flight_119 ?_
              refine lv_topi (fun v47 ev47 => ?_)
              have tv47 := nu_add ev47 (by omega) (by omega)
              refine lv_iload_n hx hb dX10_flight_120 rfl (lv_at hl_34 2 rfl) ?_
              have b48 : nowB v47.toNatClampNeg = (0, 20) := nb_5 (by show 5 ≤ v47.toInt.toNat ∧ v47.toInt.toNat ≤ 7; omega)
              have b48 : (nowB v47.toNatClampNeg).1 ≤ a2.toInt ∧ a2.toInt ≤ (nowB v47.toNatClampNeg).2 := by rw [b48]; have := fb_rng a2; show 0 ≤ a2.toInt ∧ a2.toInt ≤ 20; omega
              refine tr_iastx Z.1 Z.2.2.2.1 S41.1 S41.2 hq22 tq22 rfl (by omega) (by omega) b48.1 b48.2 dX10_flight_121 (fun E48 H49 k50 W48 I48 P48 => ?_)
              have S48 : Now D TB cy (va_A (va_pl L E) sz) s L τ E48 H49 k50 := ⟨W48, I48⟩
              have F48 : Fr L τ (inW [(11, 0), (60, 0), (61, 0)]) E E48 := Fr.set F41 P48 tq22 rfl
              refine lv_aload_n hx hb dX10_flight_122 rfl (lv_at hl_34 0 rfl) ?_
              refine tr_getr Z.1 Z.2.2.2.1 S48.1 S48.2 ha0 ta0 rfl rfl (fun _ h => List.mem_cons_of_mem _ (List.mem_append_right _ h)) 0 (by decide) rfl (hts _ (List.mem_of_getElem? (i := 2) rfl)) dX10_flight_123 (fun q51 eq51 hq51 tq51 => ?_)
              have tq51 : τ q51 = (60, 0) := tq51
              have uq51 : q22 = q51 := S48.2.2.2.2 _ hq22 _ hq51 (tq22.trans tq51.symm) (by rw [tq22]; rfl)
              subst uq51
              obtain ⟨v52, ev52, tv52⟩ : ∃ v : Int32, (Int8.ofInt (8)).toInt32 = v ∧ v.toInt = 8 := ⟨_, rfl, by decide +kernel⟩
              refine lv_bipush hx hb dX10_flight_126 ev52 ?_
              refine lv_iload_n hx hb dX10_flight_128 rfl (lv_at hl_34 1 rfl) ?_
              refine lv_iadd hx hb dX10_flight_129 ?_
              refine lv_topi (fun v53 ev53 => ?_)
              have tv53 := nu_add ev53 (by omega) (by omega)
              refine lv_iload_n hx hb dX10_flight_130 rfl (lv_at hl_34 3 rfl) ?_
              have b54 : nowB v53.toNatClampNeg = (-2147483648, 2147483647) := nb_o (by show v53.toInt.toNat < 4 ∨ (8 ≤ v53.toInt.toNat ∧ v53.toInt.toNat ≤ 18) ∨ (20 ≤ v53.toInt.toNat ∧ v53.toInt.toNat ≤ 43); omega)
              have b54 : (nowB v53.toNatClampNeg).1 ≤ a3.toInt ∧ a3.toInt ≤ (nowB v53.toNatClampNeg).2 := by rw [b54]; have := fb_rng a3; show -2147483648 ≤ a3.toInt ∧ a3.toInt ≤ 2147483647; omega
              refine tr_iastx Z.1 Z.2.2.2.1 S48.1 S48.2 hq22 tq22 rfl (by omega) (by omega) b54.1 b54.2 dX10_flight_131 (fun E54 H55 k56 W54 I54 P54 => ?_)
              have S54 : Now D TB cy (va_A (va_pl L E) sz) s L τ E54 H55 k56 := ⟨W54, I54⟩
              have F54 : Fr L τ (inW [(11, 0), (60, 0), (61, 0)]) E E54 := Fr.set F48 P54 tq22 rfl
              obtain ⟨v57, ev57, tv57⟩ : ∃ v : Int32, Int32.ofInt (1) = v ∧ v.toInt = 1 := ⟨_, rfl, by decide +kernel⟩
              refine lv_iconst hx hb dX10_flight_132 ev57 ?_
              rw [← hQ]
              exact en_z Z S54 F54 (zo v57 (by omega)) ⟨(by omega), (by omega)⟩ dX10_flight_133
            · skip
              have tc40 := nu_eq c40
              have uc40 : (0 : Int32).toInt = 0 := rfl
              exact J103 E_34 H36 k37 l_34 S35 F_34 (lv_sub hl_34 [0] rfl)
      · skip
        have tc25 := nu_nle c25
        refine lv_iload hx hb dX10_flight_45 (lv_at hl_34 4 rfl) ?_
        refine lv_iload hx hb dX10_flight_47 (lv_at hl_34 5 rfl) ?_
        refine lv_iload_n hx hb dX10_flight_49 rfl (lv_at hl_34 1 rfl) ?_
        refine lv_icmp_ne (tgt := 57) hx hb dX10_flight_50 (by decide) (fun c58 => ?_) (fun c58 => ?_)
        · skip
          have tc58 := nu_ne c58
          refine lv_aload_n hx hb dX10_flight_57 rfl (lv_at hl_34 0 rfl) ?_
          refine tr_getr Z.1 Z.2.2.2.1 S_34.1 S_34.2 ha0 ta0 rfl rfl (fun _ h => List.mem_cons_of_mem _ (List.mem_append_right _ h)) 0 (by decide) rfl (hts _ (List.mem_of_getElem? (i := 2) rfl)) dX10_flight_58 (fun q59 eq59 hq59 tq59 => ?_)
          have tq59 : τ q59 = (60, 0) := tq59
          have uq59 : q22 = q59 := S_34.2.2.2.2 _ hq22 _ hq59 (tq22.trans tq59.symm) (by rw [tq22]; rfl)
          subst uq59
          obtain ⟨v60, ev60, tv60⟩ : ∃ v : Int32, Int32.ofInt (5) = v ∧ v.toInt = 5 := ⟨_, rfl, by decide +kernel⟩
          refine lv_iconst hx hb dX10_flight_61 ev60 ?_
          refine lv_iload hx hb dX10_flight_62 (lv_at hl_34 5 rfl) ?_
          refine lv_iadd hx hb dX10_flight_64 ?_
          refine lv_topi (fun v61 ev61 => ?_)
          have tv61 := nu_add ev61 (by omega) (by omega)
          refine tr_ialdx Z.1 Z.2.2.2.1 S_34.1 S_34.2 hq22 tq22 rfl (by omega) (by omega) dX10_flight_65 (fun v62 ev62 lv62 uv62 => ?_)
          have bv62 : nowB v61.toNatClampNeg = (0, 20) := nb_5 (by show 5 ≤ v61.toInt.toNat ∧ v61.toInt.toNat ≤ 7; omega)
          rw [bv62] at lv62 uv62
          have lv62 : 0 ≤ v62.toInt := lv62
          have uv62 : v62.toInt ≤ 20 := uv62
          exact J66 x4_34 v62 E_34 H_34 k_34 l_34 S_34 F_34 (by have := fb_rng a2; have := fb_rng a3; have := fb_rng x4_34; omega) (by have := fb_rng a2; have := fb_rng a3; have := fb_rng x4_34; omega) (by have := fb_rng a2; have := fb_rng a3; have := fb_rng x4_34; omega) (by have := fb_rng a2; have := fb_rng a3; have := fb_rng x4_34; omega) (by have := fb_rng a2; have := fb_rng a3; have := fb_rng x4_34; omega) (by have := fb_rng a2; have := fb_rng a3; have := fb_rng x4_34; omega) (lv_sub hl_34 [0, 1, 2, 3, 5] rfl)
        · skip
          have tc58 := nu_eq c58
          obtain ⟨v63, ev63, tv63⟩ : ∃ v : Int32, Int32.ofInt (0) = v ∧ v.toInt = 0 := ⟨_, rfl, by decide +kernel⟩
          refine lv_iconst hx hb dX10_flight_53 ev63 ?_
          refine lv_goto (tgt := 66) hx hb dX10_flight_54 (by decide) ?_
          exact J66 x4_34 v63 E_34 H_34 k_34 l_34 S_34 F_34 (by have := fb_rng a2; have := fb_rng a3; have := fb_rng x4_34; omega) (by have := fb_rng a2; have := fb_rng a3; have := fb_rng x4_34; omega) (by have := fb_rng a2; have := fb_rng a3; have := fb_rng x4_34; omega) (by have := fb_rng a2; have := fb_rng a3; have := fb_rng x4_34; omega) (by have := fb_rng a2; have := fb_rng a3; have := fb_rng x4_34; omega) (by have := fb_rng a2; have := fb_rng a3; have := fb_rng x4_34; omega) (lv_sub hl_34 [0, 1, 2, 3, 5] rfl)
  refine lv_aload_n hx hb dX10_flight_0 rfl (lv_at hl 0 rfl) ?_
  obtain ⟨v64, ev64, tv64⟩ : ∃ v : Int32, Int32.ofInt (0) = v ∧ v.toInt = 0 := ⟨_, rfl, by decide +kernel⟩
  refine lv_iconst hx hb dX10_flight_1 ev64 ?_
  refine tr_puti Z.1 Z.2.2.2.1 S0.1 S0.2 ha0 ta0 rfl rfl (fun _ h => List.mem_cons_of_mem _ (List.mem_append_right _ h)) tyX10_ok nmX10 4 (by decide) rfl rfl rfl (hts _ (List.mem_of_getElem? (i := 1) rfl)) dX10_flight_2 (by omega) (by omega) (fun E65 H66 k67 W65 I65 P65 => ?_)
  have S65 : Now D TB cy (va_A (va_pl L E) sz) s L τ E65 H66 k67 := ⟨W65, I65⟩
  have F65 : Fr L τ (inW [(11, 0), (60, 0), (61, 0)]) E E65 := Fr.put F0_ P65 ta0 rfl
  refine lv_aload_n hx hb dX10_flight_5 rfl (lv_at hl 0 rfl) ?_
  refine lv_iload_n hx hb dX10_flight_6 rfl (lv_at hl 1 rfl) ?_
  obtain ⟨v68, ev68, tv68⟩ : ∃ v : Int32, Int32.ofInt (0) = v ∧ v.toInt = 0 := ⟨_, rfl, by decide +kernel⟩
  refine lv_iconst hx hb dX10_flight_7 ev68 ?_
  refine lv_aload_n hx hb dX10_flight_8 rfl (lv_at hl 0 rfl) ?_
  refine tr_getr Z.1 Z.2.2.2.1 S65.1 S65.2 ha0 ta0 rfl rfl (fun _ h => List.mem_cons_of_mem _ (List.mem_append_right _ h)) 0 (by decide) rfl (hts _ (List.mem_of_getElem? (i := 2) rfl)) dX10_flight_9 (fun q69 eq69 hq69 tq69 => ?_)
  have tq69 : τ q69 = (60, 0) := tq69
  obtain ⟨v70, ev70, tv70⟩ : ∃ v : Int32, Int32.ofInt (4) = v ∧ v.toInt = 4 := ⟨_, rfl, by decide +kernel⟩
  refine lv_iconst hx hb dX10_flight_12 ev70 ?_
  refine tr_ialdx Z.1 Z.2.2.2.1 S65.1 S65.2 hq69 tq69 rfl (by omega) (by omega) dX10_flight_13 (fun v71 ev71 lv71 uv71 => ?_)
  have bv71 : nowB v70.toNatClampNeg = (0, 3) := nb_4 (by show v70.toInt.toNat = 4; omega)
  rw [bv71] at lv71 uv71
  have lv71 : 0 ≤ v71.toInt := lv71
  have uv71 : v71.toInt ≤ 3 := uv71
  have av71 : ai E65 q69 4 = v71 := ai_at ev71 (by omega)
  obtain ⟨v72, ev72, tv72⟩ : ∃ v : Int32, Int32.ofInt (1) = v ∧ v.toInt = 1 := ⟨_, rfl, by decide +kernel⟩
  refine lv_iconst hx hb dX10_flight_14 ev72 ?_
  refine lv_isub hx hb dX10_flight_15 ?_
  refine lv_topi (fun v73 ev73 => ?_)
  have tv73 := nu_sub ev73 (by omega) (by omega)
  refine tc_vi Z.1 Z.2.2.2.1 Z.2.2.2.2.1 Z.2.2.2.2.2 S65.1 S65.2 ha0 ta0 rfl rfl (k_X10_in l D cy S65.2 ha0 ta0 a1 v68 v73) (cwV 3 hts gX10_flight_X10_in rfl rfl rfl (by decide +kernel) ⟨Nat.le_of_ble_eq_true rfl, Nat.le_of_ble_eq_true rfl⟩) rfl hl.1 rfl (Nat.le_of_ble_eq_true rfl) dX10_flight_16 ⟨Nat.zero_le _, Nat.zero_le _⟩ (fun v77 E74 H75 k76 W74 I74 G74 p74 => ?_)
  obtain ⟨q74, p74_0, p74_1, p74_2⟩ := p74
  have q74 := q74.symm
  subst q74
  have S74 : Now D TB cy (va_A (va_pl L E) sz) s L τ E65 H75 k76 := ⟨W74, I74⟩
  refine lv_if_ne (tgt := 28) hx hb dX10_flight_19 (by decide) (fun c78 => ?_) (fun c78 => ?_)
  · skip
    have tc78 := nu_ne c78
    have uc78 : (0 : Int32).toInt = 0 := rfl
    refine lv_iload_n hx hb dX10_flight_28 rfl (lv_at hl 2 rfl) ?_
    refine lv_istore (lv' := [(4, .int a2), (0, .ref a0), (1, .int a1), (2, .int a2), (3, .int a3)]) hx hb dX10_flight_29 hl (by decide) rfl (fun l79 hl80 => ?_)
    obtain ⟨v81, ev81, tv81⟩ : ∃ v : Int32, Int32.ofInt (0) = v ∧ v.toInt = 0 := ⟨_, rfl, by decide +kernel⟩
    refine lv_iconst hx hb dX10_flight_31 ev81 ?_
    refine lv_istore (lv' := [(5, .int v81), (4, .int a2), (0, .ref a0), (1, .int a1), (2, .int a2), (3, .int a3)]) hx hb dX10_flight_32 hl80 (by decide) rfl (fun l82 hl83 => ?_)
    exact J34 _ a2 v81 E65 H75 k76 l82 S74 F65 (by have := fb_rng a2; have := fb_rng a2; have := fb_rng a3; omega) (by have := fb_rng a2; have := fb_rng a2; have := fb_rng a3; omega) (by have := fb_rng a2; have := fb_rng a2; have := fb_rng a3; omega) (by have := fb_rng a2; have := fb_rng a2; have := fb_rng a3; omega) (Nat.lt_succ_self _) (lv_sub hl83 [2, 3, 4, 5, 1, 0] rfl)
  · skip
    have tc78 := nu_eq c78
    have uc78 : (0 : Int32).toInt = 0 := rfl
    refine lv_aload_n hx hb dX10_flight_22 rfl (lv_at hl 0 rfl) ?_
    obtain ⟨v84, ev84, tv84⟩ : ∃ v : Int32, Int32.ofInt (4) = v ∧ v.toInt = 4 := ⟨_, rfl, by decide +kernel⟩
    refine lv_iconst hx hb dX10_flight_23 ev84 ?_
    refine tc_vi Z.1 Z.2.2.2.1 Z.2.2.2.2.1 Z.2.2.2.2.2 S74.1 S74.2 ha0 ta0 rfl rfl (k_X10_not l D cy S74.2 ha0 ta0 v84) (cwV 1 hts gX10_flight_X10_not rfl rfl rfl (by decide +kernel) ⟨Nat.le_of_ble_eq_true rfl, Nat.le_of_ble_eq_true rfl⟩) rfl hl.1 rfl (Nat.le_of_ble_eq_true rfl) dX10_flight_24 ⟨Nat.zero_le _, Nat.zero_le _⟩ (fun v88 E85 H86 k87 W85 I85 G85 p85 => ?_)
    obtain ⟨p85_0, p85_1, p85_2⟩ := p85
    have S85 : Now D TB cy (va_A (va_pl L E) sz) s L τ E85 H86 k87 := ⟨W85, I85⟩
    have F85 : Fr L τ (inW [(11, 0), (60, 0), (61, 0)]) E E85 := F65.trans (G85.mono (inW_mono (by decide)))
    rw [← hQ]
    exact en_z Z S85 F85 (zo v88 (by omega)) ⟨(by omega), (by omega)⟩ dX10_flight_27

set_option maxRecDepth 20000 in
theorem ggX10_clear_X10_act : GoodIn wsX10_clear wsX10_act := goodIn_r _ [9, 10, 11, 2, 12, 13, 14, 8, 15, 3, 4, 16, 17, 18, 19, 20, 21, 22, 23, 24, 25, 26, 27, 28, 29, 30, 31, 32, 33, 34, 35, 36, 37, 38, 39, 40, 41, 42, 43, 44, 45, 46, 47, 48, 49, 50, 51, 52, 53, 54, 55, 56, 57, 58, 59, 60, 61, 62, 63] (by decide +kernel) (by decide +kernel)
set_option maxRecDepth 20000 in
theorem gX10_clear_X10_act : GoodIn wsX10_clear (wsV RX10 131 RX10 yX10_act wsX10_act) := goodIn_app (goodIn_of _ (by decide +kernel)) ggX10_clear_X10_act
theorem dX10_clear_0 : decode cX10_clear 0 = .ok (.aload_n 0, 1) := by decide +kernel
theorem dX10_clear_1 : decode cX10_clear 1 = .ok (.iconst 0, 1) := by decide +kernel
theorem dX10_clear_2 : decode cX10_clear 2 = .ok (.putfield 97, 3) := by decide +kernel
theorem dX10_clear_5 : decode cX10_clear 5 = .ok (.aload_n 0, 1) := by decide +kernel
theorem dX10_clear_6 : decode cX10_clear 6 = .ok (.getfield 7, 3) := by decide +kernel
theorem dX10_clear_9 : decode cX10_clear 9 = .ok (.bipush 19, 2) := by decide +kernel
theorem dX10_clear_11 : decode cX10_clear 11 = .ok (.iaload, 1) := by decide +kernel
theorem dX10_clear_12 : decode cX10_clear 12 = .ok (.istore_n 1, 1) := by decide +kernel
theorem dX10_clear_13 : decode cX10_clear 13 = .ok (.iload_n 1, 1) := by decide +kernel
theorem dX10_clear_14 : decode cX10_clear 14 = .ok (.ifCond .ne 5, 3) := by decide +kernel
theorem dX10_clear_17 : decode cX10_clear 17 = .ok (.iconst 0, 1) := by decide +kernel
theorem dX10_clear_18 : decode cX10_clear 18 = .ok (.ireturn, 1) := by decide +kernel
theorem dX10_clear_19 : decode cX10_clear 19 = .ok (.aload_n 0, 1) := by decide +kernel
theorem dX10_clear_20 : decode cX10_clear 20 = .ok (.getfield 100, 3) := by decide +kernel
theorem dX10_clear_23 : decode cX10_clear 23 = .ok (.istore_n 2, 1) := by decide +kernel
theorem dX10_clear_24 : decode cX10_clear 24 = .ok (.aload_n 0, 1) := by decide +kernel
theorem dX10_clear_25 : decode cX10_clear 25 = .ok (.getfield 16, 3) := by decide +kernel
theorem dX10_clear_28 : decode cX10_clear 28 = .ok (.istore_n 3, 1) := by decide +kernel
theorem dX10_clear_29 : decode cX10_clear 29 = .ok (.aload_n 0, 1) := by decide +kernel
theorem dX10_clear_30 : decode cX10_clear 30 = .ok (.invokevirtual 131, 3) := by decide +kernel
theorem dX10_clear_33 : decode cX10_clear 33 = .ok (.aload_n 0, 1) := by decide +kernel
theorem dX10_clear_34 : decode cX10_clear 34 = .ok (.iload_n 2, 1) := by decide +kernel
theorem dX10_clear_35 : decode cX10_clear 35 = .ok (.putfield 100, 3) := by decide +kernel
theorem dX10_clear_38 : decode cX10_clear 38 = .ok (.aload_n 0, 1) := by decide +kernel
theorem dX10_clear_39 : decode cX10_clear 39 = .ok (.iload_n 3, 1) := by decide +kernel
theorem dX10_clear_40 : decode cX10_clear 40 = .ok (.putfield 16, 3) := by decide +kernel
theorem dX10_clear_43 : decode cX10_clear 43 = .ok (.aload_n 0, 1) := by decide +kernel
theorem dX10_clear_44 : decode cX10_clear 44 = .ok (.getfield 7, 3) := by decide +kernel
theorem dX10_clear_47 : decode cX10_clear 47 = .ok (.bipush 19, 2) := by decide +kernel
theorem dX10_clear_49 : decode cX10_clear 49 = .ok (.iconst 0, 1) := by decide +kernel
theorem dX10_clear_50 : decode cX10_clear 50 = .ok (.iastore, 1) := by decide +kernel
theorem dX10_clear_51 : decode cX10_clear 51 = .ok (.iload_n 1, 1) := by decide +kernel
theorem dX10_clear_52 : decode cX10_clear 52 = .ok (.ireturn, 1) := by decide +kernel
set_option maxHeartbeats 4000000 in
set_option maxRecDepth 100000 in
theorem k_X10_clear (l : Launch) (D : va_G) (cy : Nat → ClassId) {L : List Nat} {τ : Nat → Ro} {E : Ec} (hI : Inv TB cy L τ E) {a0 : Nat} (ha0 : a0 ∈ L) (ta0 : τ a0 = (11, 0)) : CtI l yX10_clear wsX10_clear { frames := 2, cells := 0, slots := 0, locals := 41 } D TB cy L τ E [.ref a0] (inW [(11, 0), (60, 0), (61, 0)]) (fun r E' => True) := by
  intro sz
  refine sta (cc := cX10_clear) (maxL := 4) hI (by decide) rfl (Nat.le_of_ble_eq_true rfl) (fun p e s m args below meth c ls hsz Z S0 hl => ?_)
  have hx := Z.1.1
  have hb := Z.1.2.1
  have hts := Z.1.2.2.2.2
  have F0_ : Fr L τ (inW [(11, 0), (60, 0), (61, 0)]) E E := Fr.refl
  have hl : lv_has ls 4 [(0, .ref a0)] := hl
  generalize hQ : MQ below _ args s 0 0 _ = QQ
  refine lv_aload_n hx hb dX10_clear_0 rfl (lv_at hl 0 rfl) ?_
  obtain ⟨v1, ev1, tv1⟩ : ∃ v : Int32, Int32.ofInt (0) = v ∧ v.toInt = 0 := ⟨_, rfl, by decide +kernel⟩
  refine lv_iconst hx hb dX10_clear_1 ev1 ?_
  refine tr_puti Z.1 Z.2.2.2.1 S0.1 S0.2 ha0 ta0 rfl rfl (fun _ h => List.mem_cons_of_mem _ (List.mem_append_right _ h)) tyX10_ok nmX10 4 (by decide) rfl rfl rfl (hts _ (List.mem_of_getElem? (i := 1) rfl)) dX10_clear_2 (by omega) (by omega) (fun E2 H3 k4 W2 I2 P2 => ?_)
  have S2 : Now D TB cy (va_A (va_pl L E) sz) s L τ E2 H3 k4 := ⟨W2, I2⟩
  have F2 : Fr L τ (inW [(11, 0), (60, 0), (61, 0)]) E E2 := Fr.put F0_ P2 ta0 rfl
  refine lv_aload_n hx hb dX10_clear_5 rfl (lv_at hl 0 rfl) ?_
  refine tr_getr Z.1 Z.2.2.2.1 S2.1 S2.2 ha0 ta0 rfl rfl (fun _ h => List.mem_cons_of_mem _ (List.mem_append_right _ h)) 0 (by decide) rfl (hts _ (List.mem_of_getElem? (i := 2) rfl)) dX10_clear_6 (fun q5 eq5 hq5 tq5 => ?_)
  have tq5 : τ q5 = (60, 0) := tq5
  obtain ⟨v6, ev6, tv6⟩ : ∃ v : Int32, (Int8.ofInt (19)).toInt32 = v ∧ v.toInt = 19 := ⟨_, rfl, by decide +kernel⟩
  refine lv_bipush hx hb dX10_clear_9 ev6 ?_
  refine tr_ialdx Z.1 Z.2.2.2.1 S2.1 S2.2 hq5 tq5 rfl (by omega) (by omega) dX10_clear_11 (fun v7 ev7 lv7 uv7 => ?_)
  have bv7 : nowB v6.toNatClampNeg = (0, 8) := nb_19 (by show v6.toInt.toNat = 19; omega)
  rw [bv7] at lv7 uv7
  have lv7 : 0 ≤ v7.toInt := lv7
  have uv7 : v7.toInt ≤ 8 := uv7
  have av7 : ai E2 q5 19 = v7 := ai_at ev7 (by omega)
  refine lv_istore_n (lv' := [(1, .int v7), (0, .ref a0)]) hx hb dX10_clear_12 rfl hl (by decide) rfl (fun l8 hl9 => ?_)
  refine lv_iload_n hx hb dX10_clear_13 rfl (lv_at hl9 0 rfl) ?_
  refine lv_if_ne (tgt := 19) hx hb dX10_clear_14 (by decide) (fun c10 => ?_) (fun c10 => ?_)
  · skip
    have tc10 := nu_ne c10
    have uc10 : (0 : Int32).toInt = 0 := rfl
    refine lv_aload_n hx hb dX10_clear_19 rfl (lv_at hl9 1 rfl) ?_
    refine tr_geti Z.1 Z.2.2.2.1 S2.1 S2.2 ha0 ta0 rfl rfl (fun _ h => List.mem_cons_of_mem _ (List.mem_append_right _ h)) 3 (by decide) rfl (hts _ (List.mem_of_getElem? (i := 3) rfl)) dX10_clear_20 (fun v11 ev11 lv11 uv11 => ?_)
    refine lv_istore_n (lv' := [(2, .int v11), (1, .int v7), (0, .ref a0)]) hx hb dX10_clear_23 rfl hl9 (by decide) rfl (fun l12 hl13 => ?_)
    refine lv_aload_n hx hb dX10_clear_24 rfl (lv_at hl13 2 rfl) ?_
    refine tr_geti Z.1 Z.2.2.2.1 S2.1 S2.2 ha0 ta0 rfl rfl (fun _ h => List.mem_cons_of_mem _ (List.mem_append_right _ h)) 6 (by decide) rfl (hts _ (List.mem_of_getElem? (i := 4) rfl)) dX10_clear_25 (fun v14 ev14 lv14 uv14 => ?_)
    refine lv_istore_n (lv' := [(3, .int v14), (2, .int v11), (1, .int v7), (0, .ref a0)]) hx hb dX10_clear_28 rfl hl13 (by decide) rfl (fun l15 hl16 => ?_)
    refine lv_aload_n hx hb dX10_clear_29 rfl (lv_at hl16 3 rfl) ?_
    refine tc_vv Z.1 Z.2.2.2.1 Z.2.2.2.2.1 Z.2.2.2.2.2 S2.1 S2.2 ha0 ta0 rfl rfl (k_X10_act l D cy S2.2 ha0 ta0) (cwV 0 hts gX10_clear_X10_act rfl rfl rfl (by decide +kernel) ⟨Nat.le_of_ble_eq_true rfl, Nat.le_of_ble_eq_true rfl⟩) rfl hl16.1 rfl (Nat.le_of_ble_eq_true rfl) dX10_clear_30 ⟨Nat.zero_le _, Nat.zero_le _⟩ (fun E17 H18 k19 W17 I17 G17 p17 => ?_)
    have p17_0 := p17
    have S17 : Now D TB cy (va_A (va_pl L E) sz) s L τ E17 H18 k19 := ⟨W17, I17⟩
    have F17 : Fr L τ (inW [(11, 0), (60, 0), (61, 0)]) E E17 := F2.trans (G17.mono (inW_mono (by decide)))
    refine lv_aload_n hx hb dX10_clear_33 rfl (lv_at hl16 3 rfl) ?_
    refine lv_iload_n hx hb dX10_clear_34 rfl (lv_at hl16 1 rfl) ?_
    refine tr_puti Z.1 Z.2.2.2.1 S17.1 S17.2 ha0 ta0 rfl rfl (fun _ h => List.mem_cons_of_mem _ (List.mem_append_right _ h)) tyX10_ok nmX10 3 (by decide) rfl rfl rfl (hts _ (List.mem_of_getElem? (i := 3) rfl)) dX10_clear_35 (by have := fb_rng v11; omega) (by have := fb_rng v11; omega) (fun E21 H22 k23 W21 I21 P21 => ?_)
    have S21 : Now D TB cy (va_A (va_pl L E) sz) s L τ E21 H22 k23 := ⟨W21, I21⟩
    have F21 : Fr L τ (inW [(11, 0), (60, 0), (61, 0)]) E E21 := Fr.put F17 P21 ta0 rfl
    refine lv_aload_n hx hb dX10_clear_38 rfl (lv_at hl16 3 rfl) ?_
    refine lv_iload_n hx hb dX10_clear_39 rfl (lv_at hl16 0 rfl) ?_
    refine tr_puti Z.1 Z.2.2.2.1 S21.1 S21.2 ha0 ta0 rfl rfl (fun _ h => List.mem_cons_of_mem _ (List.mem_append_right _ h)) tyX10_ok nmX10 6 (by decide) rfl rfl rfl (hts _ (List.mem_of_getElem? (i := 4) rfl)) dX10_clear_40 (by have := fb_rng v14; omega) (by have := fb_rng v14; omega) (fun E24 H25 k26 W24 I24 P24 => ?_)
    have S24 : Now D TB cy (va_A (va_pl L E) sz) s L τ E24 H25 k26 := ⟨W24, I24⟩
    have F24 : Fr L τ (inW [(11, 0), (60, 0), (61, 0)]) E E24 := Fr.put F21 P24 ta0 rfl
    refine lv_aload_n hx hb dX10_clear_43 rfl (lv_at hl16 3 rfl) ?_
    refine tr_getr Z.1 Z.2.2.2.1 S24.1 S24.2 ha0 ta0 rfl rfl (fun _ h => List.mem_cons_of_mem _ (List.mem_append_right _ h)) 0 (by decide) rfl (hts _ (List.mem_of_getElem? (i := 2) rfl)) dX10_clear_44 (fun q27 eq27 hq27 tq27 => ?_)
    have tq27 : τ q27 = (60, 0) := tq27
    have uq27 : q5 = q27 := S24.2.2.2.2 _ hq5 _ hq27 (tq5.trans tq27.symm) (by rw [tq5]; rfl)
    subst uq27
    obtain ⟨v28, ev28, tv28⟩ : ∃ v : Int32, (Int8.ofInt (19)).toInt32 = v ∧ v.toInt = 19 := ⟨_, rfl, by decide +kernel⟩
    refine lv_bipush hx hb dX10_clear_47 ev28 ?_
    obtain ⟨v29, ev29, tv29⟩ : ∃ v : Int32, Int32.ofInt (0) = v ∧ v.toInt = 0 := ⟨_, rfl, by decide +kernel⟩
    refine lv_iconst hx hb dX10_clear_49 ev29 ?_
    have b30 : nowB v28.toNatClampNeg = (0, 8) := nb_19 (by show v28.toInt.toNat = 19; omega)
    have b30 : (nowB v28.toNatClampNeg).1 ≤ v29.toInt ∧ v29.toInt ≤ (nowB v28.toNatClampNeg).2 := by rw [b30]; have := fb_rng v29; show 0 ≤ v29.toInt ∧ v29.toInt ≤ 8; omega
    refine tr_iastx Z.1 Z.2.2.2.1 S24.1 S24.2 hq5 tq5 rfl (by omega) (by omega) b30.1 b30.2 dX10_clear_50 (fun E30 H31 k32 W30 I30 P30 => ?_)
    have S30 : Now D TB cy (va_A (va_pl L E) sz) s L τ E30 H31 k32 := ⟨W30, I30⟩
    have F30 : Fr L τ (inW [(11, 0), (60, 0), (61, 0)]) E E30 := Fr.set F24 P30 tq5 rfl
    refine lv_iload_n hx hb dX10_clear_51 rfl (lv_at hl16 2 rfl) ?_
    rw [← hQ]
    exact en_i Z S30 F30 trivial dX10_clear_52
  · skip
    have tc10 := nu_eq c10
    have uc10 : (0 : Int32).toInt = 0 := rfl
    obtain ⟨v33, ev33, tv33⟩ : ∃ v : Int32, Int32.ofInt (0) = v ∧ v.toInt = 0 := ⟨_, rfl, by decide +kernel⟩
    refine lv_iconst hx hb dX10_clear_17 ev33 ?_
    rw [← hQ]
    exact en_i Z S2 F2 trivial dX10_clear_18

set_option maxRecDepth 20000 in
theorem ggX10_take_X10_not : GoodIn wsX10_take wsX10_not := goodIn_r _ [11, 12, 13, 24, 25, 26, 27, 28, 29, 30, 31, 32, 33, 34, 35, 36, 37, 38, 39, 40, 41, 42, 43, 44, 45, 46, 47, 48, 49, 50, 51, 52, 53, 54, 55, 56, 57, 58, 59, 60, 61, 62, 63, 64, 65, 66, 67, 68, 69, 70, 71] (by decide +kernel) (by decide +kernel)
set_option maxRecDepth 20000 in
theorem gX10_take_X10_not : GoodIn wsX10_take (wsV RX10 127 RX10 yX10_not wsX10_not) := goodIn_app (goodIn_of _ (by decide +kernel)) ggX10_take_X10_not
set_option maxRecDepth 20000 in
theorem ggX10_take_X10_act : GoodIn wsX10_take wsX10_act := goodIn_r _ [17, 18, 19, 5, 20, 21, 22, 10, 23, 12, 13, 24, 25, 26, 27, 28, 29, 30, 31, 32, 33, 34, 35, 36, 37, 38, 39, 40, 41, 42, 43, 44, 45, 46, 47, 48, 49, 50, 51, 52, 53, 54, 55, 56, 57, 58, 59, 60, 61, 62, 63, 64, 65, 66, 67, 68, 69, 70, 71] (by decide +kernel) (by decide +kernel)
set_option maxRecDepth 20000 in
theorem gX10_take_X10_act : GoodIn wsX10_take (wsV RX10 131 RX10 yX10_act wsX10_act) := goodIn_app (goodIn_of _ (by decide +kernel)) ggX10_take_X10_act
theorem dX10_take_0 : decode cX10_take 0 = .ok (.aload_n 0, 1) := by decide +kernel
theorem dX10_take_1 : decode cX10_take 1 = .ok (.iconst 0, 1) := by decide +kernel
theorem dX10_take_2 : decode cX10_take 2 = .ok (.putfield 97, 3) := by decide +kernel
theorem dX10_take_5 : decode cX10_take 5 = .ok (.aload_n 0, 1) := by decide +kernel
theorem dX10_take_6 : decode cX10_take 6 = .ok (.getfield 254, 3) := by decide +kernel
theorem dX10_take_9 : decode cX10_take 9 = .ok (.ifCond .eq 23, 3) := by decide +kernel
theorem dX10_take_12 : decode cX10_take 12 = .ok (.aload_n 0, 1) := by decide +kernel
theorem dX10_take_13 : decode cX10_take 13 = .ok (.getfield 244, 3) := by decide +kernel
theorem dX10_take_16 : decode cX10_take 16 = .ok (.ifCond .eq 16, 3) := by decide +kernel
theorem dX10_take_19 : decode cX10_take 19 = .ok (.aload_n 0, 1) := by decide +kernel
theorem dX10_take_20 : decode cX10_take 20 = .ok (.getfield 257, 3) := by decide +kernel
theorem dX10_take_23 : decode cX10_take 23 = .ok (.aload_n 0, 1) := by decide +kernel
theorem dX10_take_24 : decode cX10_take 24 = .ok (.getfield 7, 3) := by decide +kernel
theorem dX10_take_27 : decode cX10_take 27 = .ok (.iconst 4, 1) := by decide +kernel
theorem dX10_take_28 : decode cX10_take 28 = .ok (.iaload, 1) := by decide +kernel
theorem dX10_take_29 : decode cX10_take 29 = .ok (.if_icmp .eq 9, 3) := by decide +kernel
theorem dX10_take_32 : decode cX10_take 32 = .ok (.aload_n 0, 1) := by decide +kernel
theorem dX10_take_33 : decode cX10_take 33 = .ok (.iconst 5, 1) := by decide +kernel
theorem dX10_take_34 : decode cX10_take 34 = .ok (.invokevirtual 127, 3) := by decide +kernel
theorem dX10_take_37 : decode cX10_take 37 = .ok (.ireturn, 1) := by decide +kernel
theorem dX10_take_38 : decode cX10_take 38 = .ok (.aload_n 0, 1) := by decide +kernel
theorem dX10_take_39 : decode cX10_take 39 = .ok (.invokevirtual 131, 3) := by decide +kernel
theorem dX10_take_42 : decode cX10_take 42 = .ok (.iconst 0, 1) := by decide +kernel
theorem dX10_take_43 : decode cX10_take 43 = .ok (.istore_n 1, 1) := by decide +kernel
theorem dX10_take_44 : decode cX10_take 44 = .ok (.iload_n 1, 1) := by decide +kernel
theorem dX10_take_45 : decode cX10_take 45 = .ok (.aload_n 0, 1) := by decide +kernel
theorem dX10_take_46 : decode cX10_take 46 = .ok (.getfield 257, 3) := by decide +kernel
theorem dX10_take_49 : decode cX10_take 49 = .ok (.if_icmp .ge 23, 3) := by decide +kernel
theorem dX10_take_52 : decode cX10_take 52 = .ok (.aload_n 0, 1) := by decide +kernel
theorem dX10_take_53 : decode cX10_take 53 = .ok (.getfield 7, 3) := by decide +kernel
theorem dX10_take_56 : decode cX10_take 56 = .ok (.iconst 5, 1) := by decide +kernel
theorem dX10_take_57 : decode cX10_take 57 = .ok (.iload_n 1, 1) := by decide +kernel
theorem dX10_take_58 : decode cX10_take 58 = .ok (.iadd, 1) := by decide +kernel
theorem dX10_take_59 : decode cX10_take 59 = .ok (.aload_n 0, 1) := by decide +kernel
theorem dX10_take_60 : decode cX10_take 60 = .ok (.getfield 82, 3) := by decide +kernel
theorem dX10_take_63 : decode cX10_take 63 = .ok (.iload_n 1, 1) := by decide +kernel
theorem dX10_take_64 : decode cX10_take 64 = .ok (.iaload, 1) := by decide +kernel
theorem dX10_take_65 : decode cX10_take 65 = .ok (.iastore, 1) := by decide +kernel
theorem dX10_take_66 : decode cX10_take 66 = .ok (.iinc 1 1, 3) := by decide +kernel
theorem dX10_take_69 : decode cX10_take 69 = .ok (.goto (-25), 3) := by decide +kernel
theorem dX10_take_72 : decode cX10_take 72 = .ok (.iconst 1, 1) := by decide +kernel
theorem dX10_take_73 : decode cX10_take 73 = .ok (.ireturn, 1) := by decide +kernel
set_option maxHeartbeats 4000000 in
set_option maxRecDepth 100000 in
theorem k_X10_take (l : Launch) (D : va_G) (cy : Nat → ClassId) {L : List Nat} {τ : Nat → Ro} {E : Ec} (hI : Inv TB cy L τ E) {a0 : Nat} (ha0 : a0 ∈ L) (ta0 : τ a0 = (11, 0)) : CtI l yX10_take wsX10_take { frames := 2, cells := 0, slots := 0, locals := 41 } D TB cy L τ E [.ref a0] (inW [(11, 0), (60, 0), (61, 0)]) (fun r E' => 0 ≤ r.toInt ∧ r.toInt ≤ 1) := by
  intro sz
  refine sta (cc := cX10_take) (maxL := 2) hI (by decide) rfl (Nat.le_of_ble_eq_true rfl) (fun p e s m args below meth c ls hsz Z S0 hl => ?_)
  have hx := Z.1.1
  have hb := Z.1.2.1
  have hts := Z.1.2.2.2.2
  have F0_ : Fr L τ (inW [(11, 0), (60, 0), (61, 0)]) E E := Fr.refl
  have hl : lv_has ls 2 [(0, .ref a0)] := hl
  generalize hQ : MQ below _ args s 0 0 _ = QQ
  have J44 : ∀ (n : Nat) (x1_44 : Int32) (E_44 : Ec) (H_44 : Heap) (k_44 : List Loc) (l_44 : Array Slot), Now D TB cy (va_A (va_pl L E) sz) s L τ E_44 H_44 k_44 → Fr L τ (inW [(11, 0), (60, 0), (61, 0)]) E E_44 → (0 ≤ x1_44.toInt) → (x1_44.toInt ≤ 3) → (3 - x1_44.toInt).toNat < n → lv_has l_44 2 [(0, .ref a0), (1, .int x1_44)] → W p l e { frames := 2, cells := 0, slots := 0, locals := 41 } s m args below meth c H_44 k_44 0 0 QQ (F0 m 44 l_44 []) := by
    intro n
    induction n with
    | zero => intro x1_44 E_44 H_44 k_44 l_44 S_44 F_44 z1 z2 hm hl_44; exact absurd hm (Nat.not_lt_zero _)
    | succ n ih =>
      intro x1_44 E_44 H_44 k_44 l_44 S_44 F_44 z1 z2 hm hl_44
      have ih_44 := ih
      refine lv_iload_n hx hb dX10_take_44 rfl (lv_at hl_44 1 rfl) ?_
      refine lv_aload_n hx hb dX10_take_45 rfl (lv_at hl_44 0 rfl) ?_
      refine tr_geti Z.1 Z.2.2.2.1 S_44.1 S_44.2 ha0 ta0 rfl rfl (fun _ h => List.mem_cons_of_mem _ (List.mem_append_right _ h)) 38 (by decide) rfl (hts _ (List.mem_of_getElem? (i := 4) rfl)) dX10_take_46 (fun v3 ev3 lv3 uv3 => ?_)
      refine lv_icmp_ge (tgt := 72) hx hb dX10_take_49 (by decide) (fun c4 => ?_) (fun c4 => ?_)
      · skip
        have tc4 := nu_le c4
        obtain ⟨v5, ev5, tv5⟩ : ∃ v : Int32, Int32.ofInt (1) = v ∧ v.toInt = 1 := ⟨_, rfl, by decide +kernel⟩
        refine lv_iconst hx hb dX10_take_72 ev5 ?_
        rw [← hQ]
        exact en_z Z S_44 F_44 (zo v5 (by omega)) ⟨(by omega), (by omega)⟩ dX10_take_73
      · skip
        have tc4 := nu_nle c4
        refine lv_aload_n hx hb dX10_take_52 rfl (lv_at hl_44 0 rfl) ?_
        refine tr_getr Z.1 Z.2.2.2.1 S_44.1 S_44.2 ha0 ta0 rfl rfl (fun _ h => List.mem_cons_of_mem _ (List.mem_append_right _ h)) 0 (by decide) rfl (hts _ (List.mem_of_getElem? (i := 5) rfl)) dX10_take_53 (fun q6 eq6 hq6 tq6 => ?_)
        have tq6 : τ q6 = (60, 0) := tq6
        obtain ⟨v7, ev7, tv7⟩ : ∃ v : Int32, Int32.ofInt (5) = v ∧ v.toInt = 5 := ⟨_, rfl, by decide +kernel⟩
        refine lv_iconst hx hb dX10_take_56 ev7 ?_
        refine lv_iload_n hx hb dX10_take_57 rfl (lv_at hl_44 1 rfl) ?_
        refine lv_iadd hx hb dX10_take_58 ?_
        refine lv_topi (fun v8 ev8 => ?_)
        have tv8 := nu_add ev8 (by omega) (by omega)
        refine lv_aload_n hx hb dX10_take_59 rfl (lv_at hl_44 0 rfl) ?_
        refine tr_getr Z.1 Z.2.2.2.1 S_44.1 S_44.2 ha0 ta0 rfl rfl (fun _ h => List.mem_cons_of_mem _ (List.mem_append_right _ h)) 34 (by decide) rfl (hts _ (List.mem_of_getElem? (i := 6) rfl)) dX10_take_60 (fun q9 eq9 hq9 tq9 => ?_)
        have tq9 : τ q9 = (82, 0) := tq9
        refine lv_iload_n hx hb dX10_take_63 rfl (lv_at hl_44 1 rfl) ?_
        refine tr_iald Z.1 Z.2.2.2.1 S_44.1 S_44.2 hq9 tq9 rfl (by omega) (by omega) dX10_take_64 (fun v10 ev10 lv10 uv10 => ?_)
        have b11 : nowB v8.toNatClampNeg = (0, 20) := nb_5 (by show 5 ≤ v8.toInt.toNat ∧ v8.toInt.toNat ≤ 7; omega)
        have b11 : (nowB v8.toNatClampNeg).1 ≤ v10.toInt ∧ v10.toInt ≤ (nowB v8.toNatClampNeg).2 := by rw [b11]; have := fb_rng v10; show 0 ≤ v10.toInt ∧ v10.toInt ≤ 20; omega
        refine tr_iastx Z.1 Z.2.2.2.1 S_44.1 S_44.2 hq6 tq6 rfl (by omega) (by omega) b11.1 b11.2 dX10_take_65 (fun E11 H12 k13 W11 I11 P11 => ?_)
        have S11 : Now D TB cy (va_A (va_pl L E) sz) s L τ E11 H12 k13 := ⟨W11, I11⟩
        have F11 : Fr L τ (inW [(11, 0), (60, 0), (61, 0)]) E E11 := Fr.set F_44 P11 tq6 rfl
        obtain ⟨v14, ev14⟩ : ∃ y : Int32, x1_44 + Int32.ofInt (1) = y := ⟨_, rfl⟩
        have tv14 : v14.toInt = x1_44.toInt + (1) := by rw [← ev14]; exact (fb_addI (by rw [show (Int32.ofInt (1)).toInt = 1 from by decide +kernel]; omega) (by rw [show (Int32.ofInt (1)).toInt = 1 from by decide +kernel]; omega)).trans (by rw [show (Int32.ofInt (1)).toInt = 1 from by decide +kernel])
        refine lv_iinc (v := v14) (lv' := [(1, .int v14), (0, .ref a0)]) hx hb dX10_take_66 hl_44 (k := 1) rfl ev14 (by decide) rfl (fun l15 hl16 => ?_)
        refine lv_goto (tgt := 44) hx hb dX10_take_69 (by decide) ?_
        exact ih_44 v14 E11 H12 k13 l15 S11 F11 (by omega) (by omega) (by omega) (lv_sub hl16 [1, 0] rfl)
  have J32 : ∀  (E_32 : Ec) (H_32 : Heap) (k_32 : List Loc) (l_32 : Array Slot), Now D TB cy (va_A (va_pl L E) sz) s L τ E_32 H_32 k_32 → Fr L τ (inW [(11, 0), (60, 0), (61, 0)]) E E_32 → lv_has l_32 2 [(0, .ref a0)] → W p l e { frames := 2, cells := 0, slots := 0, locals := 41 } s m args below meth c H_32 k_32 0 0 QQ (F0 m 32 l_32 []) := by
    intro  E_32 H_32 k_32 l_32 S_32 F_32  hl_32
    refine lv_aload_n hx hb dX10_take_32 rfl (lv_at hl_32 0 rfl) ?_
    obtain ⟨v17, ev17, tv17⟩ : ∃ v : Int32, Int32.ofInt (5) = v ∧ v.toInt = 5 := ⟨_, rfl, by decide +kernel⟩
    refine lv_iconst hx hb dX10_take_33 ev17 ?_
    refine tc_vi Z.1 Z.2.2.2.1 Z.2.2.2.2.1 Z.2.2.2.2.2 S_32.1 S_32.2 ha0 ta0 rfl rfl (k_X10_not l D cy S_32.2 ha0 ta0 v17) (cwV 1 hts gX10_take_X10_not rfl rfl rfl (by decide +kernel) ⟨Nat.le_of_ble_eq_true rfl, Nat.le_of_ble_eq_true rfl⟩) rfl hl_32.1 rfl (Nat.le_of_ble_eq_true rfl) dX10_take_34 ⟨Nat.zero_le _, Nat.zero_le _⟩ (fun v21 E18 H19 k20 W18 I18 G18 p18 => ?_)
    obtain ⟨p18_0, p18_1, p18_2⟩ := p18
    have S18 : Now D TB cy (va_A (va_pl L E) sz) s L τ E18 H19 k20 := ⟨W18, I18⟩
    have F18 : Fr L τ (inW [(11, 0), (60, 0), (61, 0)]) E E18 := F_32.trans (G18.mono (inW_mono (by decide)))
    rw [← hQ]
    exact en_z Z S18 F18 (zo v21 (by omega)) ⟨(by omega), (by omega)⟩ dX10_take_37
  refine lv_aload_n hx hb dX10_take_0 rfl (lv_at hl 0 rfl) ?_
  obtain ⟨v22, ev22, tv22⟩ : ∃ v : Int32, Int32.ofInt (0) = v ∧ v.toInt = 0 := ⟨_, rfl, by decide +kernel⟩
  refine lv_iconst hx hb dX10_take_1 ev22 ?_
  refine tr_puti Z.1 Z.2.2.2.1 S0.1 S0.2 ha0 ta0 rfl rfl (fun _ h => List.mem_cons_of_mem _ (List.mem_append_right _ h)) tyX10_ok nmX10 4 (by decide) rfl rfl rfl (hts _ (List.mem_of_getElem? (i := 1) rfl)) dX10_take_2 (by omega) (by omega) (fun E23 H24 k25 W23 I23 P23 => ?_)
  have S23 : Now D TB cy (va_A (va_pl L E) sz) s L τ E23 H24 k25 := ⟨W23, I23⟩
  have F23 : Fr L τ (inW [(11, 0), (60, 0), (61, 0)]) E E23 := Fr.put F0_ P23 ta0 rfl
  refine lv_aload_n hx hb dX10_take_5 rfl (lv_at hl 0 rfl) ?_
  refine tr_geti Z.1 Z.2.2.2.1 S23.1 S23.2 ha0 ta0 rfl rfl (fun _ h => List.mem_cons_of_mem _ (List.mem_append_right _ h)) 40 (by decide) rfl (hts _ (List.mem_of_getElem? (i := 2) rfl)) dX10_take_6 (fun v26 ev26 lv26 uv26 => ?_)
  refine lv_if_eq (tgt := 32) hx hb dX10_take_9 (by decide) (fun c27 => ?_) (fun c27 => ?_)
  · skip
    have tc27 := nu_eq c27
    have uc27 : (0 : Int32).toInt = 0 := rfl
    exact J32 E23 H24 k25 ls S23 F23 (lv_sub hl [0] rfl)
  · skip
    have tc27 := nu_ne c27
    have uc27 : (0 : Int32).toInt = 0 := rfl
    refine lv_aload_n hx hb dX10_take_12 rfl (lv_at hl 0 rfl) ?_
    refine tr_geti Z.1 Z.2.2.2.1 S23.1 S23.2 ha0 ta0 rfl rfl (fun _ h => List.mem_cons_of_mem _ (List.mem_append_right _ h)) 41 (by decide) rfl (hts _ (List.mem_of_getElem? (i := 3) rfl)) dX10_take_13 (fun v28 ev28 lv28 uv28 => ?_)
    refine lv_if_eq (tgt := 32) hx hb dX10_take_16 (by decide) (fun c29 => ?_) (fun c29 => ?_)
    · skip
      have tc29 := nu_eq c29
      have uc29 : (0 : Int32).toInt = 0 := rfl
      exact J32 E23 H24 k25 ls S23 F23 (lv_sub hl [0] rfl)
    · skip
      have tc29 := nu_ne c29
      have uc29 : (0 : Int32).toInt = 0 := rfl
      refine lv_aload_n hx hb dX10_take_19 rfl (lv_at hl 0 rfl) ?_
      refine tr_geti Z.1 Z.2.2.2.1 S23.1 S23.2 ha0 ta0 rfl rfl (fun _ h => List.mem_cons_of_mem _ (List.mem_append_right _ h)) 38 (by decide) rfl (hts _ (List.mem_of_getElem? (i := 4) rfl)) dX10_take_20 (fun v30 ev30 lv30 uv30 => ?_)
      refine lv_aload_n hx hb dX10_take_23 rfl (lv_at hl 0 rfl) ?_
      refine tr_getr Z.1 Z.2.2.2.1 S23.1 S23.2 ha0 ta0 rfl rfl (fun _ h => List.mem_cons_of_mem _ (List.mem_append_right _ h)) 0 (by decide) rfl (hts _ (List.mem_of_getElem? (i := 5) rfl)) dX10_take_24 (fun q31 eq31 hq31 tq31 => ?_)
      have tq31 : τ q31 = (60, 0) := tq31
      obtain ⟨v32, ev32, tv32⟩ : ∃ v : Int32, Int32.ofInt (4) = v ∧ v.toInt = 4 := ⟨_, rfl, by decide +kernel⟩
      refine lv_iconst hx hb dX10_take_27 ev32 ?_
      refine tr_ialdx Z.1 Z.2.2.2.1 S23.1 S23.2 hq31 tq31 rfl (by omega) (by omega) dX10_take_28 (fun v33 ev33 lv33 uv33 => ?_)
      have bv33 : nowB v32.toNatClampNeg = (0, 3) := nb_4 (by show v32.toInt.toNat = 4; omega)
      rw [bv33] at lv33 uv33
      have lv33 : 0 ≤ v33.toInt := lv33
      have uv33 : v33.toInt ≤ 3 := uv33
      have av33 : ai E23 q31 4 = v33 := ai_at ev33 (by omega)
      refine lv_icmp_eq (tgt := 38) hx hb dX10_take_29 (by decide) (fun c34 => ?_) (fun c34 => ?_)
      · skip
        have tc34 := nu_eq c34
        refine lv_aload_n hx hb dX10_take_38 rfl (lv_at hl 0 rfl) ?_
        refine tc_vv Z.1 Z.2.2.2.1 Z.2.2.2.2.1 Z.2.2.2.2.2 S23.1 S23.2 ha0 ta0 rfl rfl (k_X10_act l D cy S23.2 ha0 ta0) (cwV 0 hts gX10_take_X10_act rfl rfl rfl (by decide +kernel) ⟨Nat.le_of_ble_eq_true rfl, Nat.le_of_ble_eq_true rfl⟩) rfl hl.1 rfl (Nat.le_of_ble_eq_true rfl) dX10_take_39 ⟨Nat.zero_le _, Nat.zero_le _⟩ (fun E35 H36 k37 W35 I35 G35 p35 => ?_)
        have p35_0 := p35
        have S35 : Now D TB cy (va_A (va_pl L E) sz) s L τ E35 H36 k37 := ⟨W35, I35⟩
        have F35 : Fr L τ (inW [(11, 0), (60, 0), (61, 0)]) E E35 := F23.trans (G35.mono (inW_mono (by decide)))
        obtain ⟨v39, ev39, tv39⟩ : ∃ v : Int32, Int32.ofInt (0) = v ∧ v.toInt = 0 := ⟨_, rfl, by decide +kernel⟩
        refine lv_iconst hx hb dX10_take_42 ev39 ?_
        refine lv_istore_n (lv' := [(1, .int v39), (0, .ref a0)]) hx hb dX10_take_43 rfl hl (by decide) rfl (fun l40 hl41 => ?_)
        exact J44 _ v39 E35 H36 k37 l40 S35 F35 (by omega) (by omega) (Nat.lt_succ_self _) (lv_sub hl41 [1, 0] rfl)
      · skip
        have tc34 := nu_ne c34
        exact J32 E23 H24 k25 ls S23 F23 (lv_sub hl [0] rfl)

theorem dX10_packed_0 : decode cX10_packed 0 = .ok (.lconst 0, 1) := by decide +kernel
theorem dX10_packed_1 : decode cX10_packed 1 = .ok (.lstore 7, 2) := by decide +kernel
theorem dX10_packed_3 : decode cX10_packed 3 = .ok (.iload_n 1, 1) := by decide +kernel
theorem dX10_packed_4 : decode cX10_packed 4 = .ok (.ifCond .le 18, 3) := by decide +kernel
theorem dX10_packed_7 : decode cX10_packed 7 = .ok (.lload 7, 2) := by decide +kernel
theorem dX10_packed_9 : decode cX10_packed 9 = .ok (.ldc2_w 166, 3) := by decide +kernel
theorem dX10_packed_12 : decode cX10_packed 12 = .ok (.lmul, 1) := by decide +kernel
theorem dX10_packed_13 : decode cX10_packed 13 = .ok (.iload_n 1, 1) := by decide +kernel
theorem dX10_packed_14 : decode cX10_packed 14 = .ok (.i2l, 1) := by decide +kernel
theorem dX10_packed_15 : decode cX10_packed 15 = .ok (.ladd, 1) := by decide +kernel
theorem dX10_packed_16 : decode cX10_packed 16 = .ok (.ldc2_w 168, 3) := by decide +kernel
theorem dX10_packed_19 : decode cX10_packed 19 = .ok (.lsub, 1) := by decide +kernel
theorem dX10_packed_20 : decode cX10_packed 20 = .ok (.lstore 7, 2) := by decide +kernel
theorem dX10_packed_22 : decode cX10_packed 22 = .ok (.iload_n 2, 1) := by decide +kernel
theorem dX10_packed_23 : decode cX10_packed 23 = .ok (.ifCond .le 18, 3) := by decide +kernel
theorem dX10_packed_26 : decode cX10_packed 26 = .ok (.lload 7, 2) := by decide +kernel
theorem dX10_packed_28 : decode cX10_packed 28 = .ok (.ldc2_w 166, 3) := by decide +kernel
theorem dX10_packed_31 : decode cX10_packed 31 = .ok (.lmul, 1) := by decide +kernel
theorem dX10_packed_32 : decode cX10_packed 32 = .ok (.iload_n 2, 1) := by decide +kernel
theorem dX10_packed_33 : decode cX10_packed 33 = .ok (.i2l, 1) := by decide +kernel
theorem dX10_packed_34 : decode cX10_packed 34 = .ok (.ladd, 1) := by decide +kernel
theorem dX10_packed_35 : decode cX10_packed 35 = .ok (.ldc2_w 168, 3) := by decide +kernel
theorem dX10_packed_38 : decode cX10_packed 38 = .ok (.lsub, 1) := by decide +kernel
theorem dX10_packed_39 : decode cX10_packed 39 = .ok (.lstore 7, 2) := by decide +kernel
theorem dX10_packed_41 : decode cX10_packed 41 = .ok (.iload_n 3, 1) := by decide +kernel
theorem dX10_packed_42 : decode cX10_packed 42 = .ok (.ifCond .le 18, 3) := by decide +kernel
theorem dX10_packed_45 : decode cX10_packed 45 = .ok (.lload 7, 2) := by decide +kernel
theorem dX10_packed_47 : decode cX10_packed 47 = .ok (.ldc2_w 166, 3) := by decide +kernel
theorem dX10_packed_50 : decode cX10_packed 50 = .ok (.lmul, 1) := by decide +kernel
theorem dX10_packed_51 : decode cX10_packed 51 = .ok (.iload_n 3, 1) := by decide +kernel
theorem dX10_packed_52 : decode cX10_packed 52 = .ok (.i2l, 1) := by decide +kernel
theorem dX10_packed_53 : decode cX10_packed 53 = .ok (.ladd, 1) := by decide +kernel
theorem dX10_packed_54 : decode cX10_packed 54 = .ok (.ldc2_w 168, 3) := by decide +kernel
theorem dX10_packed_57 : decode cX10_packed 57 = .ok (.lsub, 1) := by decide +kernel
theorem dX10_packed_58 : decode cX10_packed 58 = .ok (.lstore 7, 2) := by decide +kernel
theorem dX10_packed_60 : decode cX10_packed 60 = .ok (.iload 4, 2) := by decide +kernel
theorem dX10_packed_62 : decode cX10_packed 62 = .ok (.ifCond .le 19, 3) := by decide +kernel
theorem dX10_packed_65 : decode cX10_packed 65 = .ok (.lload 7, 2) := by decide +kernel
theorem dX10_packed_67 : decode cX10_packed 67 = .ok (.ldc2_w 166, 3) := by decide +kernel
theorem dX10_packed_70 : decode cX10_packed 70 = .ok (.lmul, 1) := by decide +kernel
theorem dX10_packed_71 : decode cX10_packed 71 = .ok (.iload 4, 2) := by decide +kernel
theorem dX10_packed_73 : decode cX10_packed 73 = .ok (.i2l, 1) := by decide +kernel
theorem dX10_packed_74 : decode cX10_packed 74 = .ok (.ladd, 1) := by decide +kernel
theorem dX10_packed_75 : decode cX10_packed 75 = .ok (.ldc2_w 168, 3) := by decide +kernel
theorem dX10_packed_78 : decode cX10_packed 78 = .ok (.lsub, 1) := by decide +kernel
theorem dX10_packed_79 : decode cX10_packed 79 = .ok (.lstore 7, 2) := by decide +kernel
theorem dX10_packed_81 : decode cX10_packed 81 = .ok (.iload 5, 2) := by decide +kernel
theorem dX10_packed_83 : decode cX10_packed 83 = .ok (.ifCond .le 19, 3) := by decide +kernel
theorem dX10_packed_86 : decode cX10_packed 86 = .ok (.lload 7, 2) := by decide +kernel
theorem dX10_packed_88 : decode cX10_packed 88 = .ok (.ldc2_w 166, 3) := by decide +kernel
theorem dX10_packed_91 : decode cX10_packed 91 = .ok (.lmul, 1) := by decide +kernel
theorem dX10_packed_92 : decode cX10_packed 92 = .ok (.iload 5, 2) := by decide +kernel
theorem dX10_packed_94 : decode cX10_packed 94 = .ok (.i2l, 1) := by decide +kernel
theorem dX10_packed_95 : decode cX10_packed 95 = .ok (.ladd, 1) := by decide +kernel
theorem dX10_packed_96 : decode cX10_packed 96 = .ok (.ldc2_w 168, 3) := by decide +kernel
theorem dX10_packed_99 : decode cX10_packed 99 = .ok (.lsub, 1) := by decide +kernel
theorem dX10_packed_100 : decode cX10_packed 100 = .ok (.lstore 7, 2) := by decide +kernel
theorem dX10_packed_102 : decode cX10_packed 102 = .ok (.iload 6, 2) := by decide +kernel
theorem dX10_packed_104 : decode cX10_packed 104 = .ok (.ifCond .le 19, 3) := by decide +kernel
theorem dX10_packed_107 : decode cX10_packed 107 = .ok (.lload 7, 2) := by decide +kernel
theorem dX10_packed_109 : decode cX10_packed 109 = .ok (.ldc2_w 166, 3) := by decide +kernel
theorem dX10_packed_112 : decode cX10_packed 112 = .ok (.lmul, 1) := by decide +kernel
theorem dX10_packed_113 : decode cX10_packed 113 = .ok (.iload 6, 2) := by decide +kernel
theorem dX10_packed_115 : decode cX10_packed 115 = .ok (.i2l, 1) := by decide +kernel
theorem dX10_packed_116 : decode cX10_packed 116 = .ok (.ladd, 1) := by decide +kernel
theorem dX10_packed_117 : decode cX10_packed 117 = .ok (.ldc2_w 168, 3) := by decide +kernel
theorem dX10_packed_120 : decode cX10_packed 120 = .ok (.lsub, 1) := by decide +kernel
theorem dX10_packed_121 : decode cX10_packed 121 = .ok (.lstore 7, 2) := by decide +kernel
theorem dX10_packed_123 : decode cX10_packed 123 = .ok (.lload 7, 2) := by decide +kernel
theorem dX10_packed_125 : decode cX10_packed 125 = .ok (.lreturn, 1) := by decide +kernel
set_option maxHeartbeats 4000000 in
set_option maxRecDepth 100000 in
theorem k_X10_packed (l : Launch) (D : va_G) (cy : Nat → ClassId) {L : List Nat} {τ : Nat → Ro} {E : Ec} (hI : Inv TB cy L τ E) {a0 : Nat} (ha0 : a0 ∈ L) (ta0 : τ a0 = (11, 0)) (a1 : Int32) (a2 : Int32) (a3 : Int32) (a4 : Int32) (a5 : Int32) (a6 : Int32) : CtL l yX10_packed wsX10_packed { frames := 0, cells := 0, slots := 0, locals := 0 } D TB cy L τ E [.ref a0, .int a1, .int a2, .int a3, .int a4, .int a5, .int a6] (inW []) (fun r E' => E' = E) := by
  intro sz
  refine sta (cc := cX10_packed) (maxL := 9) hI (by decide) rfl (Nat.le_of_ble_eq_true rfl) (fun p e s m args below meth c ls hsz Z S0 hl => ?_)
  have hx := Z.1.1
  have hb := Z.1.2.1
  have hts := Z.1.2.2.2.2
  have F0_ : Fr L τ (inW []) E E := Fr.refl
  have hl : lv_has ls 9 [(0, .ref a0), (1, .int a1), (2, .int a2), (3, .int a3), (4, .int a4), (5, .int a5), (6, .int a6)] := hl
  generalize hQ : MQ below _ args s 0 0 _ = QQ
  have J102 : ∀ (x7_102 : Int64) (H_102 : Heap) (k_102 : List Loc) (l_102 : Array Slot), Now D TB cy (va_A (va_pl L E) sz) s L τ E H_102 k_102 → lv_has l_102 9 [(6, .int a6), (7, .long x7_102)] → W p l e { frames := 0, cells := 0, slots := 0, locals := 0 } s m args below meth c H_102 k_102 0 0 QQ (F0 m 102 l_102 []) := by
    intro x7_102 H_102 k_102 l_102 S_102  hl_102
    refine lv_iload hx hb dX10_packed_102 (lv_at hl_102 0 rfl) ?_
    refine lv_if_le (tgt := 123) hx hb dX10_packed_104 (by decide) (fun c1 => ?_) (fun c1 => ?_)
    · skip
      have tc1 := nu_le c1
      have uc1 : (0 : Int32).toInt = 0 := rfl
      refine lv_lload hx hb dX10_packed_123 (lv_at hl_102 1 rfl) ?_
      rw [← hQ]
      exact en_l Z S_102 F0_ rfl dX10_packed_125
    · skip
      have tc1 := nu_nle c1
      have uc1 : (0 : Int32).toInt = 0 := rfl
      refine lv_lload hx hb dX10_packed_107 (lv_at hl_102 1 rfl) ?_
      refine lv_ldc2 (v := (32)) hx hb Z.1.2.2.2.1 (hts _ (List.mem_of_getElem? (i := 1) rfl)) dX10_packed_109 ?_
      refine lv_topl (fun w2 ew2 => ?_)
      refine lv_lmul hx hb dX10_packed_112 ?_
      refine lv_topl (fun w3 ew3 => ?_)
      refine lv_iload hx hb dX10_packed_113 (lv_at hl_102 0 rfl) ?_
      obtain ⟨w4, ew4⟩ : ∃ y : Int64, a6.toInt64 = y := ⟨_, rfl⟩
      refine lv_i2l hx hb dX10_packed_115 ew4 ?_
      refine lv_ladd hx hb dX10_packed_116 ?_
      refine lv_topl (fun w5 ew5 => ?_)
      refine lv_ldc2 (v := (96)) hx hb Z.1.2.2.2.1 (hts _ (List.mem_of_getElem? (i := 2) rfl)) dX10_packed_117 ?_
      refine lv_topl (fun w6 ew6 => ?_)
      refine lv_lsub hx hb dX10_packed_120 ?_
      refine lv_topl (fun w7 ew7 => ?_)
      refine lv_lstore (lv' := [(7, .long w7), (6, .int a6)]) hx hb dX10_packed_121 hl_102 (by decide) rfl (fun l8 hl9 => ?_)
      refine lv_lload hx hb dX10_packed_123 (lv_at hl9 0 rfl) ?_
      rw [← hQ]
      exact en_l Z S_102 F0_ rfl dX10_packed_125
  have J81 : ∀ (x7_81 : Int64) (H_81 : Heap) (k_81 : List Loc) (l_81 : Array Slot), Now D TB cy (va_A (va_pl L E) sz) s L τ E H_81 k_81 → lv_has l_81 9 [(5, .int a5), (6, .int a6), (7, .long x7_81)] → W p l e { frames := 0, cells := 0, slots := 0, locals := 0 } s m args below meth c H_81 k_81 0 0 QQ (F0 m 81 l_81 []) := by
    intro x7_81 H_81 k_81 l_81 S_81  hl_81
    refine lv_iload hx hb dX10_packed_81 (lv_at hl_81 0 rfl) ?_
    refine lv_if_le (tgt := 102) hx hb dX10_packed_83 (by decide) (fun c10 => ?_) (fun c10 => ?_)
    · skip
      have tc10 := nu_le c10
      have uc10 : (0 : Int32).toInt = 0 := rfl
      exact J102 x7_81 H_81 k_81 l_81 S_81 (lv_sub hl_81 [1, 2] rfl)
    · skip
      have tc10 := nu_nle c10
      have uc10 : (0 : Int32).toInt = 0 := rfl
      refine lv_lload hx hb dX10_packed_86 (lv_at hl_81 2 rfl) ?_
      refine lv_ldc2 (v := (32)) hx hb Z.1.2.2.2.1 (hts _ (List.mem_of_getElem? (i := 1) rfl)) dX10_packed_88 ?_
      refine lv_topl (fun w11 ew11 => ?_)
      refine lv_lmul hx hb dX10_packed_91 ?_
      refine lv_topl (fun w12 ew12 => ?_)
      refine lv_iload hx hb dX10_packed_92 (lv_at hl_81 0 rfl) ?_
      obtain ⟨w13, ew13⟩ : ∃ y : Int64, a5.toInt64 = y := ⟨_, rfl⟩
      refine lv_i2l hx hb dX10_packed_94 ew13 ?_
      refine lv_ladd hx hb dX10_packed_95 ?_
      refine lv_topl (fun w14 ew14 => ?_)
      refine lv_ldc2 (v := (96)) hx hb Z.1.2.2.2.1 (hts _ (List.mem_of_getElem? (i := 2) rfl)) dX10_packed_96 ?_
      refine lv_topl (fun w15 ew15 => ?_)
      refine lv_lsub hx hb dX10_packed_99 ?_
      refine lv_topl (fun w16 ew16 => ?_)
      refine lv_lstore (lv' := [(7, .long w16), (5, .int a5), (6, .int a6)]) hx hb dX10_packed_100 hl_81 (by decide) rfl (fun l17 hl18 => ?_)
      exact J102 w16 H_81 k_81 l17 S_81 (lv_sub hl18 [2, 0] rfl)
  have J60 : ∀ (x7_60 : Int64) (H_60 : Heap) (k_60 : List Loc) (l_60 : Array Slot), Now D TB cy (va_A (va_pl L E) sz) s L τ E H_60 k_60 → lv_has l_60 9 [(4, .int a4), (5, .int a5), (6, .int a6), (7, .long x7_60)] → W p l e { frames := 0, cells := 0, slots := 0, locals := 0 } s m args below meth c H_60 k_60 0 0 QQ (F0 m 60 l_60 []) := by
    intro x7_60 H_60 k_60 l_60 S_60  hl_60
    refine lv_iload hx hb dX10_packed_60 (lv_at hl_60 0 rfl) ?_
    refine lv_if_le (tgt := 81) hx hb dX10_packed_62 (by decide) (fun c19 => ?_) (fun c19 => ?_)
    · skip
      have tc19 := nu_le c19
      have uc19 : (0 : Int32).toInt = 0 := rfl
      exact J81 x7_60 H_60 k_60 l_60 S_60 (lv_sub hl_60 [1, 2, 3] rfl)
    · skip
      have tc19 := nu_nle c19
      have uc19 : (0 : Int32).toInt = 0 := rfl
      refine lv_lload hx hb dX10_packed_65 (lv_at hl_60 3 rfl) ?_
      refine lv_ldc2 (v := (32)) hx hb Z.1.2.2.2.1 (hts _ (List.mem_of_getElem? (i := 1) rfl)) dX10_packed_67 ?_
      refine lv_topl (fun w20 ew20 => ?_)
      refine lv_lmul hx hb dX10_packed_70 ?_
      refine lv_topl (fun w21 ew21 => ?_)
      refine lv_iload hx hb dX10_packed_71 (lv_at hl_60 0 rfl) ?_
      obtain ⟨w22, ew22⟩ : ∃ y : Int64, a4.toInt64 = y := ⟨_, rfl⟩
      refine lv_i2l hx hb dX10_packed_73 ew22 ?_
      refine lv_ladd hx hb dX10_packed_74 ?_
      refine lv_topl (fun w23 ew23 => ?_)
      refine lv_ldc2 (v := (96)) hx hb Z.1.2.2.2.1 (hts _ (List.mem_of_getElem? (i := 2) rfl)) dX10_packed_75 ?_
      refine lv_topl (fun w24 ew24 => ?_)
      refine lv_lsub hx hb dX10_packed_78 ?_
      refine lv_topl (fun w25 ew25 => ?_)
      refine lv_lstore (lv' := [(7, .long w25), (4, .int a4), (5, .int a5), (6, .int a6)]) hx hb dX10_packed_79 hl_60 (by decide) rfl (fun l26 hl27 => ?_)
      exact J81 w25 H_60 k_60 l26 S_60 (lv_sub hl27 [2, 3, 0] rfl)
  have J41 : ∀ (x7_41 : Int64) (H_41 : Heap) (k_41 : List Loc) (l_41 : Array Slot), Now D TB cy (va_A (va_pl L E) sz) s L τ E H_41 k_41 → lv_has l_41 9 [(3, .int a3), (4, .int a4), (5, .int a5), (6, .int a6), (7, .long x7_41)] → W p l e { frames := 0, cells := 0, slots := 0, locals := 0 } s m args below meth c H_41 k_41 0 0 QQ (F0 m 41 l_41 []) := by
    intro x7_41 H_41 k_41 l_41 S_41  hl_41
    refine lv_iload_n hx hb dX10_packed_41 rfl (lv_at hl_41 0 rfl) ?_
    refine lv_if_le (tgt := 60) hx hb dX10_packed_42 (by decide) (fun c28 => ?_) (fun c28 => ?_)
    · skip
      have tc28 := nu_le c28
      have uc28 : (0 : Int32).toInt = 0 := rfl
      exact J60 x7_41 H_41 k_41 l_41 S_41 (lv_sub hl_41 [1, 2, 3, 4] rfl)
    · skip
      have tc28 := nu_nle c28
      have uc28 : (0 : Int32).toInt = 0 := rfl
      refine lv_lload hx hb dX10_packed_45 (lv_at hl_41 4 rfl) ?_
      refine lv_ldc2 (v := (32)) hx hb Z.1.2.2.2.1 (hts _ (List.mem_of_getElem? (i := 1) rfl)) dX10_packed_47 ?_
      refine lv_topl (fun w29 ew29 => ?_)
      refine lv_lmul hx hb dX10_packed_50 ?_
      refine lv_topl (fun w30 ew30 => ?_)
      refine lv_iload_n hx hb dX10_packed_51 rfl (lv_at hl_41 0 rfl) ?_
      obtain ⟨w31, ew31⟩ : ∃ y : Int64, a3.toInt64 = y := ⟨_, rfl⟩
      refine lv_i2l hx hb dX10_packed_52 ew31 ?_
      refine lv_ladd hx hb dX10_packed_53 ?_
      refine lv_topl (fun w32 ew32 => ?_)
      refine lv_ldc2 (v := (96)) hx hb Z.1.2.2.2.1 (hts _ (List.mem_of_getElem? (i := 2) rfl)) dX10_packed_54 ?_
      refine lv_topl (fun w33 ew33 => ?_)
      refine lv_lsub hx hb dX10_packed_57 ?_
      refine lv_topl (fun w34 ew34 => ?_)
      refine lv_lstore (lv' := [(7, .long w34), (3, .int a3), (4, .int a4), (5, .int a5), (6, .int a6)]) hx hb dX10_packed_58 hl_41 (by decide) rfl (fun l35 hl36 => ?_)
      exact J60 w34 H_41 k_41 l35 S_41 (lv_sub hl36 [2, 3, 4, 0] rfl)
  have J22 : ∀ (x7_22 : Int64) (H_22 : Heap) (k_22 : List Loc) (l_22 : Array Slot), Now D TB cy (va_A (va_pl L E) sz) s L τ E H_22 k_22 → lv_has l_22 9 [(2, .int a2), (3, .int a3), (4, .int a4), (5, .int a5), (6, .int a6), (7, .long x7_22)] → W p l e { frames := 0, cells := 0, slots := 0, locals := 0 } s m args below meth c H_22 k_22 0 0 QQ (F0 m 22 l_22 []) := by
    intro x7_22 H_22 k_22 l_22 S_22  hl_22
    refine lv_iload_n hx hb dX10_packed_22 rfl (lv_at hl_22 0 rfl) ?_
    refine lv_if_le (tgt := 41) hx hb dX10_packed_23 (by decide) (fun c37 => ?_) (fun c37 => ?_)
    · skip
      have tc37 := nu_le c37
      have uc37 : (0 : Int32).toInt = 0 := rfl
      exact J41 x7_22 H_22 k_22 l_22 S_22 (lv_sub hl_22 [1, 2, 3, 4, 5] rfl)
    · skip
      have tc37 := nu_nle c37
      have uc37 : (0 : Int32).toInt = 0 := rfl
      refine lv_lload hx hb dX10_packed_26 (lv_at hl_22 5 rfl) ?_
      refine lv_ldc2 (v := (32)) hx hb Z.1.2.2.2.1 (hts _ (List.mem_of_getElem? (i := 1) rfl)) dX10_packed_28 ?_
      refine lv_topl (fun w38 ew38 => ?_)
      refine lv_lmul hx hb dX10_packed_31 ?_
      refine lv_topl (fun w39 ew39 => ?_)
      refine lv_iload_n hx hb dX10_packed_32 rfl (lv_at hl_22 0 rfl) ?_
      obtain ⟨w40, ew40⟩ : ∃ y : Int64, a2.toInt64 = y := ⟨_, rfl⟩
      refine lv_i2l hx hb dX10_packed_33 ew40 ?_
      refine lv_ladd hx hb dX10_packed_34 ?_
      refine lv_topl (fun w41 ew41 => ?_)
      refine lv_ldc2 (v := (96)) hx hb Z.1.2.2.2.1 (hts _ (List.mem_of_getElem? (i := 2) rfl)) dX10_packed_35 ?_
      refine lv_topl (fun w42 ew42 => ?_)
      refine lv_lsub hx hb dX10_packed_38 ?_
      refine lv_topl (fun w43 ew43 => ?_)
      refine lv_lstore (lv' := [(7, .long w43), (2, .int a2), (3, .int a3), (4, .int a4), (5, .int a5), (6, .int a6)]) hx hb dX10_packed_39 hl_22 (by decide) rfl (fun l44 hl45 => ?_)
      exact J41 w43 H_22 k_22 l44 S_22 (lv_sub hl45 [2, 3, 4, 5, 0] rfl)
  refine lv_lconst (v := 0) hx hb dX10_packed_0 (by decide +kernel) ?_
  refine lv_topl (fun w46 ew46 => ?_)
  refine lv_lstore (lv' := [(7, .long w46), (0, .ref a0), (1, .int a1), (2, .int a2), (3, .int a3), (4, .int a4), (5, .int a5), (6, .int a6)]) hx hb dX10_packed_1 hl (by decide) rfl (fun l47 hl48 => ?_)
  refine lv_iload_n hx hb dX10_packed_3 rfl (lv_at hl48 2 rfl) ?_
  refine lv_if_le (tgt := 22) hx hb dX10_packed_4 (by decide) (fun c49 => ?_) (fun c49 => ?_)
  · skip
    have tc49 := nu_le c49
    have uc49 : (0 : Int32).toInt = 0 := rfl
    exact J22 w46 s.heap [] l47 S0 (lv_sub hl48 [3, 4, 5, 6, 7, 0] rfl)
  · skip
    have tc49 := nu_nle c49
    have uc49 : (0 : Int32).toInt = 0 := rfl
    refine lv_lload hx hb dX10_packed_7 (lv_at hl48 0 rfl) ?_
    refine lv_ldc2 (v := (32)) hx hb Z.1.2.2.2.1 (hts _ (List.mem_of_getElem? (i := 1) rfl)) dX10_packed_9 ?_
    refine lv_topl (fun w50 ew50 => ?_)
    refine lv_lmul hx hb dX10_packed_12 ?_
    refine lv_topl (fun w51 ew51 => ?_)
    refine lv_iload_n hx hb dX10_packed_13 rfl (lv_at hl48 2 rfl) ?_
    obtain ⟨w52, ew52⟩ : ∃ y : Int64, a1.toInt64 = y := ⟨_, rfl⟩
    refine lv_i2l hx hb dX10_packed_14 ew52 ?_
    refine lv_ladd hx hb dX10_packed_15 ?_
    refine lv_topl (fun w53 ew53 => ?_)
    refine lv_ldc2 (v := (96)) hx hb Z.1.2.2.2.1 (hts _ (List.mem_of_getElem? (i := 2) rfl)) dX10_packed_16 ?_
    refine lv_topl (fun w54 ew54 => ?_)
    refine lv_lsub hx hb dX10_packed_19 ?_
    refine lv_topl (fun w55 ew55 => ?_)
    refine lv_lstore (lv' := [(7, .long w55), (0, .ref a0), (1, .int a1), (2, .int a2), (3, .int a3), (4, .int a4), (5, .int a5), (6, .int a6)]) hx hb dX10_packed_20 hl48 (by decide) rfl (fun l56 hl57 => ?_)
    exact J22 w55 s.heap [] l56 S0 (lv_sub hl57 [3, 4, 5, 6, 7, 0] rfl)

