set_option maxRecDepth 20000 in
theorem ggX9_size_X9_laidRows : GoodIn wsX9_size wsX9_laidRows := goodIn_r _ [19, 20, 21, 1, 22, 23, 24, 25, 26, 27, 28, 29, 30, 31, 32, 33, 34, 35, 36, 37, 38, 39, 40, 41, 42, 43, 44, 45, 46, 47, 48, 49, 50, 51, 52, 18, 53, 54, 55, 56, 57, 58, 59, 60, 61, 62, 63, 64, 65, 66, 67, 68, 69, 70, 71, 72, 73, 74, 75, 76, 77, 78, 79, 80, 81, 82, 83, 84, 85, 91, 92, 93, 94, 95, 96, 97, 98, 99, 100, 101, 118, 119, 120, 121, 122, 102, 103, 104, 105, 106, 107, 108, 109, 110, 111, 112, 113, 114, 115, 116, 117] (by decide +kernel) (by decide +kernel)
set_option maxRecDepth 20000 in
theorem gX9_size_X9_laidRows : GoodIn wsX9_size (wsV RX9 121 RX9 yX9_laidRows wsX9_laidRows) := goodIn_app (goodIn_of _ (by decide +kernel)) ggX9_size_X9_laidRows
set_option maxRecDepth 20000 in
theorem ggX9_size_X6_cost : GoodIn wsX9_size wsX6_cost := goodIn_r _ [89, 30, 90, 27, 32, 118, 119, 120, 121, 122, 102, 103, 104, 105, 106, 107, 108, 109, 110, 111, 112, 113, 114, 115, 116, 117] (by decide +kernel) (by decide +kernel)
set_option maxRecDepth 20000 in
theorem gX9_size_X6_cost : GoodIn wsX9_size (wsV RX9 134 RX6 yX6_cost wsX6_cost) := goodIn_app (goodIn_of _ (by decide +kernel)) ggX9_size_X6_cost
theorem dX9_size_0 : decode cX9_size 0 = .ok (.iload_n 1, 1) := by decide +kernel
theorem dX9_size_1 : decode cX9_size 1 = .ok (.tableswitch 163 0 11 #[63, 71, 79, 87, 95, 103, 111, 119, 127, 139, 147, 155], 63) := by decide +kernel
theorem dX9_size_64 : decode cX9_size 64 = .ok (.aload_n 0, 1) := by decide +kernel
theorem dX9_size_65 : decode cX9_size 65 = .ok (.getfield 10, 3) := by decide +kernel
theorem dX9_size_68 : decode cX9_size 68 = .ok (.getfield 84, 3) := by decide +kernel
theorem dX9_size_71 : decode cX9_size 71 = .ok (.ireturn, 1) := by decide +kernel
theorem dX9_size_72 : decode cX9_size 72 = .ok (.aload_n 0, 1) := by decide +kernel
theorem dX9_size_73 : decode cX9_size 73 = .ok (.getfield 10, 3) := by decide +kernel
theorem dX9_size_76 : decode cX9_size 76 = .ok (.getfield 87, 3) := by decide +kernel
theorem dX9_size_79 : decode cX9_size 79 = .ok (.ireturn, 1) := by decide +kernel
theorem dX9_size_80 : decode cX9_size 80 = .ok (.aload_n 0, 1) := by decide +kernel
theorem dX9_size_81 : decode cX9_size 81 = .ok (.getfield 10, 3) := by decide +kernel
theorem dX9_size_84 : decode cX9_size 84 = .ok (.getfield 90, 3) := by decide +kernel
theorem dX9_size_87 : decode cX9_size 87 = .ok (.ireturn, 1) := by decide +kernel
theorem dX9_size_88 : decode cX9_size 88 = .ok (.aload_n 0, 1) := by decide +kernel
theorem dX9_size_89 : decode cX9_size 89 = .ok (.getfield 10, 3) := by decide +kernel
theorem dX9_size_92 : decode cX9_size 92 = .ok (.getfield 93, 3) := by decide +kernel
theorem dX9_size_95 : decode cX9_size 95 = .ok (.ireturn, 1) := by decide +kernel
theorem dX9_size_96 : decode cX9_size 96 = .ok (.aload_n 0, 1) := by decide +kernel
theorem dX9_size_97 : decode cX9_size 97 = .ok (.getfield 10, 3) := by decide +kernel
theorem dX9_size_100 : decode cX9_size 100 = .ok (.getfield 96, 3) := by decide +kernel
theorem dX9_size_103 : decode cX9_size 103 = .ok (.ireturn, 1) := by decide +kernel
theorem dX9_size_104 : decode cX9_size 104 = .ok (.aload_n 0, 1) := by decide +kernel
theorem dX9_size_105 : decode cX9_size 105 = .ok (.invokevirtual 121, 3) := by decide +kernel
theorem dX9_size_108 : decode cX9_size 108 = .ok (.getfield 125, 3) := by decide +kernel
theorem dX9_size_111 : decode cX9_size 111 = .ok (.ireturn, 1) := by decide +kernel
theorem dX9_size_112 : decode cX9_size 112 = .ok (.aload_n 0, 1) := by decide +kernel
theorem dX9_size_113 : decode cX9_size 113 = .ok (.getfield 10, 3) := by decide +kernel
theorem dX9_size_116 : decode cX9_size 116 = .ok (.getfield 128, 3) := by decide +kernel
theorem dX9_size_119 : decode cX9_size 119 = .ok (.ireturn, 1) := by decide +kernel
theorem dX9_size_120 : decode cX9_size 120 = .ok (.aload_n 0, 1) := by decide +kernel
theorem dX9_size_121 : decode cX9_size 121 = .ok (.getfield 10, 3) := by decide +kernel
theorem dX9_size_124 : decode cX9_size 124 = .ok (.getfield 131, 3) := by decide +kernel
theorem dX9_size_127 : decode cX9_size 127 = .ok (.ireturn, 1) := by decide +kernel
theorem dX9_size_128 : decode cX9_size 128 = .ok (.aload_n 0, 1) := by decide +kernel
theorem dX9_size_129 : decode cX9_size 129 = .ok (.invokevirtual 121, 3) := by decide +kernel
theorem dX9_size_132 : decode cX9_size 132 = .ok (.aload_n 0, 1) := by decide +kernel
theorem dX9_size_133 : decode cX9_size 133 = .ok (.getfield 10, 3) := by decide +kernel
theorem dX9_size_136 : decode cX9_size 136 = .ok (.invokevirtual 134, 3) := by decide +kernel
theorem dX9_size_139 : decode cX9_size 139 = .ok (.ireturn, 1) := by decide +kernel
theorem dX9_size_140 : decode cX9_size 140 = .ok (.aload_n 0, 1) := by decide +kernel
theorem dX9_size_141 : decode cX9_size 141 = .ok (.invokevirtual 121, 3) := by decide +kernel
theorem dX9_size_144 : decode cX9_size 144 = .ok (.getfield 138, 3) := by decide +kernel
theorem dX9_size_147 : decode cX9_size 147 = .ok (.ireturn, 1) := by decide +kernel
theorem dX9_size_148 : decode cX9_size 148 = .ok (.aload_n 0, 1) := by decide +kernel
theorem dX9_size_149 : decode cX9_size 149 = .ok (.getfield 19, 3) := by decide +kernel
theorem dX9_size_152 : decode cX9_size 152 = .ok (.getfield 141, 3) := by decide +kernel
theorem dX9_size_155 : decode cX9_size 155 = .ok (.ireturn, 1) := by decide +kernel
theorem dX9_size_156 : decode cX9_size 156 = .ok (.aload_n 0, 1) := by decide +kernel
theorem dX9_size_157 : decode cX9_size 157 = .ok (.getfield 54, 3) := by decide +kernel
theorem dX9_size_160 : decode cX9_size 160 = .ok (.getfield 144, 3) := by decide +kernel
theorem dX9_size_163 : decode cX9_size 163 = .ok (.ireturn, 1) := by decide +kernel
theorem dX9_size_164 : decode cX9_size 164 = .ok (.iconst (-1), 1) := by decide +kernel
theorem dX9_size_165 : decode cX9_size 165 = .ok (.ireturn, 1) := by decide +kernel
set_option maxHeartbeats 4000000 in
set_option maxRecDepth 100000 in
theorem k_X9_size (l : Launch) (D : va_G) (cy : Nat → ClassId) {L : List Nat} {τ : Nat → Ro} {E : Ec} (hI : Inv TB cy L τ E) {a0 : Nat} (ha0 : a0 ∈ L) (ta0 : τ a0 = (0, 0)) (a1 : Int32) : CtI l yX9_size wsX9_size { frames := 5, cells := 0, slots := 0, locals := 114 } D TB cy L τ E [.ref a0, .int a1] (inW [(0, 0), (5, 0), (100, 0), (101, 0), (102, 0), (103, 0), (104, 0), (105, 0), (106, 0), (107, 0), (108, 0), (109, 0), (110, 0), (111, 0), (112, 0)]) (fun r E' => True) := by
  intro sz
  refine sta (cc := cX9_size) (maxL := 2) hI (by decide) rfl (Nat.le_of_ble_eq_true rfl) (fun p e s m args below meth c ls hsz Z S0 hl => ?_)
  have hx := Z.1.1
  have hb := Z.1.2.1
  have hts := Z.1.2.2.2.2
  have F0_ : Fr L τ (inW [(0, 0), (5, 0), (100, 0), (101, 0), (102, 0), (103, 0), (104, 0), (105, 0), (106, 0), (107, 0), (108, 0), (109, 0), (110, 0), (111, 0), (112, 0)]) E E := Fr.refl
  have hl : lv_has ls 2 [(0, .ref a0), (1, .int a1)] := hl
  generalize hQ : MQ below _ args s 0 0 _ = QQ
  refine lv_iload_n hx hb dX9_size_0 rfl (lv_at hl 1 rfl) ?_
  rcases (show (a1.toInt < 0 ∨ 11 < a1.toInt) ∨ a1.toInt = 0 ∨ a1.toInt = 1 ∨ a1.toInt = 2 ∨ a1.toInt = 3 ∨ a1.toInt = 4 ∨ a1.toInt = 5 ∨ a1.toInt = 6 ∨ a1.toInt = 7 ∨ a1.toInt = 8 ∨ a1.toInt = 9 ∨ a1.toInt = 10 ∨ a1.toInt = 11 from by omega) with c1 | c1 | c1 | c1 | c1 | c1 | c1 | c1 | c1 | c1 | c1 | c1 | c1
  · skip
    refine lv_tableOut (tgt := 164) hx hb dX9_size_1 c1 (by decide) ?_
    obtain ⟨v2, ev2, tv2⟩ : ∃ v : Int32, Int32.ofInt (-1) = v ∧ v.toInt = -1 := ⟨_, rfl, by decide +kernel⟩
    refine lv_iconst hx hb dX9_size_164 ev2 ?_
    rw [← hQ]
    exact en_i Z S0 F0_ trivial dX9_size_165
  · skip
    refine lv_tableIn (tgt := 64) (off := 63) hx hb dX9_size_1 (by omega) (by omega) (by rw [show (a1.toInt - 0).toNat = 0 from by omega]; rfl) (by decide) ?_
    refine lv_aload_n hx hb dX9_size_64 rfl (lv_at hl 0 rfl) ?_
    refine tr_getr Z.1 Z.2.2.2.1 S0.1 S0.2 ha0 ta0 rfl rfl (fun _ h => List.mem_cons_of_mem _ (List.mem_append_left _ (List.mem_append_left _ (List.mem_append_left _ (List.mem_append_left _ (List.mem_append_right _ h)))))) 0 (by decide) rfl (hts _ (List.mem_of_getElem? (i := 1) rfl)) dX9_size_65 (fun q3 eq3 hq3 tq3 => ?_)
    have tq3 : τ q3 = (1, 0) := tq3
    refine tr_geti Z.1 Z.2.2.2.1 S0.1 S0.2 hq3 tq3 rfl rfl (fun _ h => List.mem_cons_of_mem _ (List.mem_append_left _ (List.mem_append_left _ (List.mem_append_left _ (List.mem_append_right _ h))))) 0 (by decide) rfl (hts _ (List.mem_of_getElem? (i := 2) rfl)) dX9_size_68 (fun v4 ev4 lv4 uv4 => ?_)
    rw [← hQ]
    exact en_i Z S0 F0_ trivial dX9_size_71
  · skip
    refine lv_tableIn (tgt := 72) (off := 71) hx hb dX9_size_1 (by omega) (by omega) (by rw [show (a1.toInt - 0).toNat = 1 from by omega]; rfl) (by decide) ?_
    refine lv_aload_n hx hb dX9_size_72 rfl (lv_at hl 0 rfl) ?_
    refine tr_getr Z.1 Z.2.2.2.1 S0.1 S0.2 ha0 ta0 rfl rfl (fun _ h => List.mem_cons_of_mem _ (List.mem_append_left _ (List.mem_append_left _ (List.mem_append_left _ (List.mem_append_left _ (List.mem_append_right _ h)))))) 0 (by decide) rfl (hts _ (List.mem_of_getElem? (i := 1) rfl)) dX9_size_73 (fun q5 eq5 hq5 tq5 => ?_)
    have tq5 : τ q5 = (1, 0) := tq5
    refine tr_geti Z.1 Z.2.2.2.1 S0.1 S0.2 hq5 tq5 rfl rfl (fun _ h => List.mem_cons_of_mem _ (List.mem_append_left _ (List.mem_append_left _ (List.mem_append_left _ (List.mem_append_right _ h))))) 1 (by decide) rfl (hts _ (List.mem_of_getElem? (i := 3) rfl)) dX9_size_76 (fun v6 ev6 lv6 uv6 => ?_)
    rw [← hQ]
    exact en_i Z S0 F0_ trivial dX9_size_79
  · skip
    refine lv_tableIn (tgt := 80) (off := 79) hx hb dX9_size_1 (by omega) (by omega) (by rw [show (a1.toInt - 0).toNat = 2 from by omega]; rfl) (by decide) ?_
    refine lv_aload_n hx hb dX9_size_80 rfl (lv_at hl 0 rfl) ?_
    refine tr_getr Z.1 Z.2.2.2.1 S0.1 S0.2 ha0 ta0 rfl rfl (fun _ h => List.mem_cons_of_mem _ (List.mem_append_left _ (List.mem_append_left _ (List.mem_append_left _ (List.mem_append_left _ (List.mem_append_right _ h)))))) 0 (by decide) rfl (hts _ (List.mem_of_getElem? (i := 1) rfl)) dX9_size_81 (fun q7 eq7 hq7 tq7 => ?_)
    have tq7 : τ q7 = (1, 0) := tq7
    refine tr_geti Z.1 Z.2.2.2.1 S0.1 S0.2 hq7 tq7 rfl rfl (fun _ h => List.mem_cons_of_mem _ (List.mem_append_left _ (List.mem_append_left _ (List.mem_append_left _ (List.mem_append_right _ h))))) 2 (by decide) rfl (hts _ (List.mem_of_getElem? (i := 4) rfl)) dX9_size_84 (fun v8 ev8 lv8 uv8 => ?_)
    rw [← hQ]
    exact en_i Z S0 F0_ trivial dX9_size_87
  · skip
    refine lv_tableIn (tgt := 88) (off := 87) hx hb dX9_size_1 (by omega) (by omega) (by rw [show (a1.toInt - 0).toNat = 3 from by omega]; rfl) (by decide) ?_
    refine lv_aload_n hx hb dX9_size_88 rfl (lv_at hl 0 rfl) ?_
    refine tr_getr Z.1 Z.2.2.2.1 S0.1 S0.2 ha0 ta0 rfl rfl (fun _ h => List.mem_cons_of_mem _ (List.mem_append_left _ (List.mem_append_left _ (List.mem_append_left _ (List.mem_append_left _ (List.mem_append_right _ h)))))) 0 (by decide) rfl (hts _ (List.mem_of_getElem? (i := 1) rfl)) dX9_size_89 (fun q9 eq9 hq9 tq9 => ?_)
    have tq9 : τ q9 = (1, 0) := tq9
    refine tr_geti Z.1 Z.2.2.2.1 S0.1 S0.2 hq9 tq9 rfl rfl (fun _ h => List.mem_cons_of_mem _ (List.mem_append_left _ (List.mem_append_left _ (List.mem_append_left _ (List.mem_append_right _ h))))) 3 (by decide) rfl (hts _ (List.mem_of_getElem? (i := 5) rfl)) dX9_size_92 (fun v10 ev10 lv10 uv10 => ?_)
    rw [← hQ]
    exact en_i Z S0 F0_ trivial dX9_size_95
  · skip
    refine lv_tableIn (tgt := 96) (off := 95) hx hb dX9_size_1 (by omega) (by omega) (by rw [show (a1.toInt - 0).toNat = 4 from by omega]; rfl) (by decide) ?_
    refine lv_aload_n hx hb dX9_size_96 rfl (lv_at hl 0 rfl) ?_
    refine tr_getr Z.1 Z.2.2.2.1 S0.1 S0.2 ha0 ta0 rfl rfl (fun _ h => List.mem_cons_of_mem _ (List.mem_append_left _ (List.mem_append_left _ (List.mem_append_left _ (List.mem_append_left _ (List.mem_append_right _ h)))))) 0 (by decide) rfl (hts _ (List.mem_of_getElem? (i := 1) rfl)) dX9_size_97 (fun q11 eq11 hq11 tq11 => ?_)
    have tq11 : τ q11 = (1, 0) := tq11
    refine tr_geti Z.1 Z.2.2.2.1 S0.1 S0.2 hq11 tq11 rfl rfl (fun _ h => List.mem_cons_of_mem _ (List.mem_append_left _ (List.mem_append_left _ (List.mem_append_left _ (List.mem_append_right _ h))))) 4 (by decide) rfl (hts _ (List.mem_of_getElem? (i := 6) rfl)) dX9_size_100 (fun v12 ev12 lv12 uv12 => ?_)
    rw [← hQ]
    exact en_i Z S0 F0_ trivial dX9_size_103
  · skip
    refine lv_tableIn (tgt := 104) (off := 103) hx hb dX9_size_1 (by omega) (by omega) (by rw [show (a1.toInt - 0).toNat = 5 from by omega]; rfl) (by decide) ?_
    refine lv_aload_n hx hb dX9_size_104 rfl (lv_at hl 0 rfl) ?_
    refine tc_vq Z.1 Z.2.2.2.1 Z.2.2.2.2.1 Z.2.2.2.2.2 S0.1 S0.2 ha0 ta0 rfl rfl (k_X9_laidRows l D cy S0.2 ha0 ta0) (cwV 0 hts gX9_size_X9_laidRows rfl rfl rfl (by decide +kernel) ⟨Nat.le_of_ble_eq_true rfl, Nat.le_of_ble_eq_true rfl⟩) rfl hl.1 rfl (Nat.le_of_ble_eq_true rfl) dX9_size_105 ⟨Nat.zero_le _, Nat.zero_le _⟩ (fun v16 E13 H14 k15 W13 I13 G13 p13 => ?_)
    have p13_0 := p13
    have S13 : Now D TB cy (va_A (va_pl L E) sz) s L τ E13 H14 k15 := ⟨W13, I13⟩
    have F13 : Fr L τ (inW [(0, 0), (5, 0), (100, 0), (101, 0), (102, 0), (103, 0), (104, 0), (105, 0), (106, 0), (107, 0), (108, 0), (109, 0), (110, 0), (111, 0), (112, 0)]) E E13 := F0_.trans (G13.mono (inW_mono (by decide)))
    obtain ⟨q17, rfl, hq17, tq17⟩ := p13_0
    refine W.eq (g2 := F0 m 108 ls [.ref q17]) rfl ?_
    refine tr_geti Z.1 Z.2.2.2.1 S13.1 S13.2 hq17 tq17 rfl rfl (fun _ h => List.mem_cons_of_mem _ (List.mem_append_left _ (List.mem_append_left _ (List.mem_append_right _ h)))) 1 (by decide) rfl (hts _ (List.mem_of_getElem? (i := 7) rfl)) dX9_size_108 (fun v18 ev18 lv18 uv18 => ?_)
    rw [← hQ]
    exact en_i Z S13 F13 trivial dX9_size_111
  · skip
    refine lv_tableIn (tgt := 112) (off := 111) hx hb dX9_size_1 (by omega) (by omega) (by rw [show (a1.toInt - 0).toNat = 6 from by omega]; rfl) (by decide) ?_
    refine lv_aload_n hx hb dX9_size_112 rfl (lv_at hl 0 rfl) ?_
    refine tr_getr Z.1 Z.2.2.2.1 S0.1 S0.2 ha0 ta0 rfl rfl (fun _ h => List.mem_cons_of_mem _ (List.mem_append_left _ (List.mem_append_left _ (List.mem_append_left _ (List.mem_append_left _ (List.mem_append_right _ h)))))) 0 (by decide) rfl (hts _ (List.mem_of_getElem? (i := 1) rfl)) dX9_size_113 (fun q19 eq19 hq19 tq19 => ?_)
    have tq19 : τ q19 = (1, 0) := tq19
    refine tr_geti Z.1 Z.2.2.2.1 S0.1 S0.2 hq19 tq19 rfl rfl (fun _ h => List.mem_cons_of_mem _ (List.mem_append_left _ (List.mem_append_left _ (List.mem_append_left _ (List.mem_append_right _ h))))) 7 (by decide) rfl (hts _ (List.mem_of_getElem? (i := 8) rfl)) dX9_size_116 (fun v20 ev20 lv20 uv20 => ?_)
    rw [← hQ]
    exact en_i Z S0 F0_ trivial dX9_size_119
  · skip
    refine lv_tableIn (tgt := 120) (off := 119) hx hb dX9_size_1 (by omega) (by omega) (by rw [show (a1.toInt - 0).toNat = 7 from by omega]; rfl) (by decide) ?_
    refine lv_aload_n hx hb dX9_size_120 rfl (lv_at hl 0 rfl) ?_
    refine tr_getr Z.1 Z.2.2.2.1 S0.1 S0.2 ha0 ta0 rfl rfl (fun _ h => List.mem_cons_of_mem _ (List.mem_append_left _ (List.mem_append_left _ (List.mem_append_left _ (List.mem_append_left _ (List.mem_append_right _ h)))))) 0 (by decide) rfl (hts _ (List.mem_of_getElem? (i := 1) rfl)) dX9_size_121 (fun q21 eq21 hq21 tq21 => ?_)
    have tq21 : τ q21 = (1, 0) := tq21
    refine tr_geti Z.1 Z.2.2.2.1 S0.1 S0.2 hq21 tq21 rfl rfl (fun _ h => List.mem_cons_of_mem _ (List.mem_append_left _ (List.mem_append_left _ (List.mem_append_left _ (List.mem_append_right _ h))))) 6 (by decide) rfl (hts _ (List.mem_of_getElem? (i := 9) rfl)) dX9_size_124 (fun v22 ev22 lv22 uv22 => ?_)
    rw [← hQ]
    exact en_i Z S0 F0_ trivial dX9_size_127
  · skip
    refine lv_tableIn (tgt := 128) (off := 127) hx hb dX9_size_1 (by omega) (by omega) (by rw [show (a1.toInt - 0).toNat = 8 from by omega]; rfl) (by decide) ?_
    refine lv_aload_n hx hb dX9_size_128 rfl (lv_at hl 0 rfl) ?_
    refine tc_vq Z.1 Z.2.2.2.1 Z.2.2.2.2.1 Z.2.2.2.2.2 S0.1 S0.2 ha0 ta0 rfl rfl (k_X9_laidRows l D cy S0.2 ha0 ta0) (cwV 0 hts gX9_size_X9_laidRows rfl rfl rfl (by decide +kernel) ⟨Nat.le_of_ble_eq_true rfl, Nat.le_of_ble_eq_true rfl⟩) rfl hl.1 rfl (Nat.le_of_ble_eq_true rfl) dX9_size_129 ⟨Nat.zero_le _, Nat.zero_le _⟩ (fun v26 E23 H24 k25 W23 I23 G23 p23 => ?_)
    have p23_0 := p23
    have S23 : Now D TB cy (va_A (va_pl L E) sz) s L τ E23 H24 k25 := ⟨W23, I23⟩
    have F23 : Fr L τ (inW [(0, 0), (5, 0), (100, 0), (101, 0), (102, 0), (103, 0), (104, 0), (105, 0), (106, 0), (107, 0), (108, 0), (109, 0), (110, 0), (111, 0), (112, 0)]) E E23 := F0_.trans (G23.mono (inW_mono (by decide)))
    obtain ⟨q27, rfl, hq27, tq27⟩ := p23_0
    refine W.eq (g2 := F0 m 132 ls [.ref q27]) rfl ?_
    refine lv_aload_n hx hb dX9_size_132 rfl (lv_at hl 0 rfl) ?_
    refine tr_getr Z.1 Z.2.2.2.1 S23.1 S23.2 ha0 ta0 rfl rfl (fun _ h => List.mem_cons_of_mem _ (List.mem_append_left _ (List.mem_append_left _ (List.mem_append_left _ (List.mem_append_left _ (List.mem_append_right _ h)))))) 0 (by decide) rfl (hts _ (List.mem_of_getElem? (i := 1) rfl)) dX9_size_133 (fun q28 eq28 hq28 tq28 => ?_)
    have tq28 : τ q28 = (1, 0) := tq28
    refine tc_vi Z.1 Z.2.2.2.1 Z.2.2.2.2.1 Z.2.2.2.2.2 S23.1 S23.2 hq27 tq27 rfl rfl (k_X6_cost_v0 l D cy S23.2 hq27 tq27 hq28 tq28) (cwV 1 hts gX9_size_X6_cost rfl rfl rfl (by decide +kernel) ⟨Nat.le_of_ble_eq_true rfl, Nat.le_of_ble_eq_true rfl⟩) rfl hl.1 rfl (Nat.le_of_ble_eq_true rfl) dX9_size_136 ⟨Nat.zero_le _, Nat.zero_le _⟩ (fun v32 E29 H30 k31 W29 I29 G29 p29 => ?_)
    have q29 := p29
    have q29 := q29.symm
    subst q29
    have S29 : Now D TB cy (va_A (va_pl L E) sz) s L τ E23 H30 k31 := ⟨W29, I29⟩
    rw [← hQ]
    exact en_i Z S29 F23 trivial dX9_size_139
  · skip
    refine lv_tableIn (tgt := 140) (off := 139) hx hb dX9_size_1 (by omega) (by omega) (by rw [show (a1.toInt - 0).toNat = 9 from by omega]; rfl) (by decide) ?_
    refine lv_aload_n hx hb dX9_size_140 rfl (lv_at hl 0 rfl) ?_
    refine tc_vq Z.1 Z.2.2.2.1 Z.2.2.2.2.1 Z.2.2.2.2.2 S0.1 S0.2 ha0 ta0 rfl rfl (k_X9_laidRows l D cy S0.2 ha0 ta0) (cwV 0 hts gX9_size_X9_laidRows rfl rfl rfl (by decide +kernel) ⟨Nat.le_of_ble_eq_true rfl, Nat.le_of_ble_eq_true rfl⟩) rfl hl.1 rfl (Nat.le_of_ble_eq_true rfl) dX9_size_141 ⟨Nat.zero_le _, Nat.zero_le _⟩ (fun v36 E33 H34 k35 W33 I33 G33 p33 => ?_)
    have p33_0 := p33
    have S33 : Now D TB cy (va_A (va_pl L E) sz) s L τ E33 H34 k35 := ⟨W33, I33⟩
    have F33 : Fr L τ (inW [(0, 0), (5, 0), (100, 0), (101, 0), (102, 0), (103, 0), (104, 0), (105, 0), (106, 0), (107, 0), (108, 0), (109, 0), (110, 0), (111, 0), (112, 0)]) E E33 := F0_.trans (G33.mono (inW_mono (by decide)))
    obtain ⟨q37, rfl, hq37, tq37⟩ := p33_0
    refine W.eq (g2 := F0 m 144 ls [.ref q37]) rfl ?_
    refine tr_geti Z.1 Z.2.2.2.1 S33.1 S33.2 hq37 tq37 rfl rfl (fun _ h => List.mem_cons_of_mem _ (List.mem_append_left _ (List.mem_append_left _ (List.mem_append_right _ h)))) 4 (by decide) rfl (hts _ (List.mem_of_getElem? (i := 10) rfl)) dX9_size_144 (fun v38 ev38 lv38 uv38 => ?_)
    rw [← hQ]
    exact en_i Z S33 F33 trivial dX9_size_147
  · skip
    refine lv_tableIn (tgt := 148) (off := 147) hx hb dX9_size_1 (by omega) (by omega) (by rw [show (a1.toInt - 0).toNat = 10 from by omega]; rfl) (by decide) ?_
    refine lv_aload_n hx hb dX9_size_148 rfl (lv_at hl 0 rfl) ?_
    refine tr_getr Z.1 Z.2.2.2.1 S0.1 S0.2 ha0 ta0 rfl rfl (fun _ h => List.mem_cons_of_mem _ (List.mem_append_left _ (List.mem_append_left _ (List.mem_append_left _ (List.mem_append_left _ (List.mem_append_right _ h)))))) 1 (by decide) rfl (hts _ (List.mem_of_getElem? (i := 11) rfl)) dX9_size_149 (fun q39 eq39 hq39 tq39 => ?_)
    have tq39 : τ q39 = (4, 0) := tq39
    refine tr_geti Z.1 Z.2.2.2.1 S0.1 S0.2 hq39 tq39 rfl rfl (fun _ h => List.mem_cons_of_mem _ (List.mem_append_left _ (List.mem_append_right _ h))) 2 (by decide) rfl (hts _ (List.mem_of_getElem? (i := 12) rfl)) dX9_size_152 (fun v40 ev40 lv40 uv40 => ?_)
    rw [← hQ]
    exact en_i Z S0 F0_ trivial dX9_size_155
  · skip
    refine lv_tableIn (tgt := 156) (off := 155) hx hb dX9_size_1 (by omega) (by omega) (by rw [show (a1.toInt - 0).toNat = 11 from by omega]; rfl) (by decide) ?_
    refine lv_aload_n hx hb dX9_size_156 rfl (lv_at hl 0 rfl) ?_
    refine tr_getr Z.1 Z.2.2.2.1 S0.1 S0.2 ha0 ta0 rfl rfl (fun _ h => List.mem_cons_of_mem _ (List.mem_append_left _ (List.mem_append_left _ (List.mem_append_left _ (List.mem_append_left _ (List.mem_append_right _ h)))))) 6 (by decide) rfl (hts _ (List.mem_of_getElem? (i := 13) rfl)) dX9_size_157 (fun q41 eq41 hq41 tq41 => ?_)
    have tq41 : τ q41 = (9, 0) := tq41
    refine tr_geti Z.1 Z.2.2.2.1 S0.1 S0.2 hq41 tq41 rfl rfl (fun _ h => List.mem_cons_of_mem _ (List.mem_append_right _ h)) 2 (by decide) rfl (hts _ (List.mem_of_getElem? (i := 14) rfl)) dX9_size_160 (fun v42 ev42 lv42 uv42 => ?_)
    rw [← hQ]
    exact en_i Z S0 F0_ trivial dX9_size_163

set_option maxRecDepth 20000 in
theorem ggX9_tread_X9_laidRows : GoodIn wsX9_tread wsX9_laidRows := goodIn_r _ [7, 8, 9, 10, 11, 12, 13, 14, 15, 16, 17, 18, 19, 20, 21, 22, 23, 24, 25, 26, 27, 28, 29, 30, 31, 32, 33, 34, 35, 36, 37, 38, 39, 40, 41, 6, 42, 43, 44, 45, 46, 47, 48, 49, 50, 51, 52, 53, 54, 55, 56, 57, 58, 59, 60, 61, 62, 63, 64, 65, 66, 67, 68, 69, 70, 71, 72, 73, 74, 83, 84, 85, 86, 87, 88, 89, 90, 91, 92, 93, 78, 79, 80, 81, 82, 94, 95, 96, 97, 98, 99, 100, 101, 102, 103, 104, 105, 106, 107, 108, 109] (by decide +kernel) (by decide +kernel)
set_option maxRecDepth 20000 in
theorem gX9_tread_X9_laidRows : GoodIn wsX9_tread (wsV RX9 121 RX9 yX9_laidRows wsX9_laidRows) := goodIn_app (goodIn_of _ (by decide +kernel)) ggX9_tread_X9_laidRows
set_option maxRecDepth 20000 in
theorem ggX9_tread_X9_within : GoodIn wsX9_tread wsX9_within := goodIn_r _ [77] (by decide +kernel) (by decide +kernel)
set_option maxRecDepth 20000 in
theorem gX9_tread_X9_within : GoodIn wsX9_tread (va_wsS RX9 73 yX9_within wsX9_within) := goodIn_app (goodIn_of _ (by decide +kernel)) ggX9_tread_X9_within
theorem dX9_tread_0 : decode cX9_tread 0 = .ok (.aload_n 0, 1) := by decide +kernel
theorem dX9_tread_1 : decode cX9_tread 1 = .ok (.invokevirtual 121, 3) := by decide +kernel
theorem dX9_tread_4 : decode cX9_tread 4 = .ok (.astore_n 3, 1) := by decide +kernel
theorem dX9_tread_5 : decode cX9_tread 5 = .ok (.iload_n 1, 1) := by decide +kernel
theorem dX9_tread_6 : decode cX9_tread 6 = .ok (.iconst 0, 1) := by decide +kernel
theorem dX9_tread_7 : decode cX9_tread 7 = .ok (.aload_n 3, 1) := by decide +kernel
theorem dX9_tread_8 : decode cX9_tread 8 = .ok (.getfield 125, 3) := by decide +kernel
theorem dX9_tread_11 : decode cX9_tread 11 = .ok (.iconst 1, 1) := by decide +kernel
theorem dX9_tread_12 : decode cX9_tread 12 = .ok (.isub, 1) := by decide +kernel
theorem dX9_tread_13 : decode cX9_tread 13 = .ok (.invokestatic 73, 3) := by decide +kernel
theorem dX9_tread_16 : decode cX9_tread 16 = .ok (.ifCond .eq 13, 3) := by decide +kernel
theorem dX9_tread_19 : decode cX9_tread 19 = .ok (.iload_n 2, 1) := by decide +kernel
theorem dX9_tread_20 : decode cX9_tread 20 = .ok (.iconst 0, 1) := by decide +kernel
theorem dX9_tread_21 : decode cX9_tread 21 = .ok (.bipush 8, 2) := by decide +kernel
theorem dX9_tread_23 : decode cX9_tread 23 = .ok (.invokestatic 73, 3) := by decide +kernel
theorem dX9_tread_26 : decode cX9_tread 26 = .ok (.ifCond .ne 7, 3) := by decide +kernel
theorem dX9_tread_29 : decode cX9_tread 29 = .ok (.sipush (-10000), 3) := by decide +kernel
theorem dX9_tread_32 : decode cX9_tread 32 = .ok (.ireturn, 1) := by decide +kernel
theorem dX9_tread_33 : decode cX9_tread 33 = .ok (.aload_n 3, 1) := by decide +kernel
theorem dX9_tread_34 : decode cX9_tread 34 = .ok (.getfield 145, 3) := by decide +kernel
theorem dX9_tread_37 : decode cX9_tread 37 = .ok (.iload_n 2, 1) := by decide +kernel
theorem dX9_tread_38 : decode cX9_tread 38 = .ok (.aaload, 1) := by decide +kernel
theorem dX9_tread_39 : decode cX9_tread 39 = .ok (.iload_n 1, 1) := by decide +kernel
theorem dX9_tread_40 : decode cX9_tread 40 = .ok (.iaload, 1) := by decide +kernel
theorem dX9_tread_41 : decode cX9_tread 41 = .ok (.ireturn, 1) := by decide +kernel
set_option maxHeartbeats 4000000 in
set_option maxRecDepth 100000 in
theorem k_X9_tread (l : Launch) (D : va_G) (cy : Nat → ClassId) {L : List Nat} {τ : Nat → Ro} {E : Ec} (hI : Inv TB cy L τ E) {a0 : Nat} (ha0 : a0 ∈ L) (ta0 : τ a0 = (0, 0)) (a1 : Int32) (a2 : Int32) : CtI l yX9_tread wsX9_tread { frames := 5, cells := 0, slots := 0, locals := 114 } D TB cy L τ E [.ref a0, .int a1, .int a2] (inW [(0, 0), (5, 0), (100, 0), (101, 0), (102, 0), (103, 0), (104, 0), (105, 0), (106, 0), (107, 0), (108, 0), (109, 0), (110, 0), (111, 0), (112, 0)]) (fun r E' => True) := by
  intro sz
  refine sta (cc := cX9_tread) (maxL := 4) hI (by decide) rfl (Nat.le_of_ble_eq_true rfl) (fun p e s m args below meth c ls hsz Z S0 hl => ?_)
  have hx := Z.1.1
  have hb := Z.1.2.1
  have hts := Z.1.2.2.2.2
  have F0_ : Fr L τ (inW [(0, 0), (5, 0), (100, 0), (101, 0), (102, 0), (103, 0), (104, 0), (105, 0), (106, 0), (107, 0), (108, 0), (109, 0), (110, 0), (111, 0), (112, 0)]) E E := Fr.refl
  have hl : lv_has ls 4 [(0, .ref a0), (1, .int a1), (2, .int a2)] := hl
  generalize hQ : MQ below _ args s 0 0 _ = QQ
  refine lv_aload_n hx hb dX9_tread_0 rfl (lv_at hl 0 rfl) ?_
  refine tc_vq Z.1 Z.2.2.2.1 Z.2.2.2.2.1 Z.2.2.2.2.2 S0.1 S0.2 ha0 ta0 rfl rfl (k_X9_laidRows l D cy S0.2 ha0 ta0) (cwV 0 hts gX9_tread_X9_laidRows rfl rfl rfl (by decide +kernel) ⟨Nat.le_of_ble_eq_true rfl, Nat.le_of_ble_eq_true rfl⟩) rfl hl.1 rfl (Nat.le_of_ble_eq_true rfl) dX9_tread_1 ⟨Nat.zero_le _, Nat.zero_le _⟩ (fun v4 E1 H2 k3 W1 I1 G1 p1 => ?_)
  have p1_0 := p1
  have S1 : Now D TB cy (va_A (va_pl L E) sz) s L τ E1 H2 k3 := ⟨W1, I1⟩
  have F1 : Fr L τ (inW [(0, 0), (5, 0), (100, 0), (101, 0), (102, 0), (103, 0), (104, 0), (105, 0), (106, 0), (107, 0), (108, 0), (109, 0), (110, 0), (111, 0), (112, 0)]) E E1 := F0_.trans (G1.mono (inW_mono (by decide)))
  obtain ⟨q5, rfl, hq5, tq5⟩ := p1_0
  refine W.eq (g2 := F0 m 4 ls [.ref q5]) rfl ?_
  refine lv_astore_n (lv' := [(3, .ref q5), (0, .ref a0), (1, .int a1), (2, .int a2)]) hx hb dX9_tread_4 rfl hl (by decide) rfl (fun l6 hl7 => ?_)
  refine lv_iload_n hx hb dX9_tread_5 rfl (lv_at hl7 2 rfl) ?_
  obtain ⟨v8, ev8, tv8⟩ : ∃ v : Int32, Int32.ofInt (0) = v ∧ v.toInt = 0 := ⟨_, rfl, by decide +kernel⟩
  refine lv_iconst hx hb dX9_tread_6 ev8 ?_
  refine lv_aload_n hx hb dX9_tread_7 rfl (lv_at hl7 0 rfl) ?_
  refine tr_geti Z.1 Z.2.2.2.1 S1.1 S1.2 hq5 tq5 rfl rfl (fun _ h => List.mem_cons_of_mem _ (List.mem_append_left _ (List.mem_append_left _ (List.mem_append_right _ h)))) 1 (by decide) rfl (hts _ (List.mem_of_getElem? (i := 1) rfl)) dX9_tread_8 (fun v9 ev9 lv9 uv9 => ?_)
  obtain ⟨v10, ev10, tv10⟩ : ∃ v : Int32, Int32.ofInt (1) = v ∧ v.toInt = 1 := ⟨_, rfl, by decide +kernel⟩
  refine lv_iconst hx hb dX9_tread_11 ev10 ?_
  refine lv_isub hx hb dX9_tread_12 ?_
  refine lv_topi (fun v11 ev11 => ?_)
  have tv11 := nu_sub ev11 (by omega) (by omega)
  refine tc_si Z.1 Z.2.2.2.1 Z.2.2.2.2.1 Z.2.2.2.2.2 S1.1 (k_X9_within l D cy S1.2 a1 v8 v11) (va_cwS 3 hts gX9_tread_X9_within rfl rfl rfl (by decide +kernel) ⟨Nat.le_of_ble_eq_true rfl, Nat.le_of_ble_eq_true rfl⟩) rfl hl7.1 rfl (Nat.le_of_ble_eq_true rfl) dX9_tread_13 ⟨Nat.zero_le _, Nat.zero_le _⟩ (fun v15 E12 H13 k14 W12 I12 G12 p12 => ?_)
  obtain ⟨q12, p12_0, p12_1, p12_2⟩ := p12
  have q12 := q12.symm
  subst q12
  have S12 : Now D TB cy (va_A (va_pl L E) sz) s L τ E1 H13 k14 := ⟨W12, I12⟩
  refine lv_if_eq (tgt := 29) hx hb dX9_tread_16 (by decide) (fun c16 => ?_) (fun c16 => ?_)
  · skip
    have tc16 := nu_eq c16
    have uc16 : (0 : Int32).toInt = 0 := rfl
    obtain ⟨v17, ev17, tv17⟩ : ∃ v : Int32, (Int16.ofInt (-10000)).toInt32 = v ∧ v.toInt = -10000 := ⟨_, rfl, by decide +kernel⟩
    refine lv_sipush hx hb dX9_tread_29 ev17 ?_
    rw [← hQ]
    exact en_i Z S12 F1 trivial dX9_tread_32
  · skip
    have tc16 := nu_ne c16
    have uc16 : (0 : Int32).toInt = 0 := rfl
    refine lv_iload_n hx hb dX9_tread_19 rfl (lv_at hl7 3 rfl) ?_
    obtain ⟨v18, ev18, tv18⟩ : ∃ v : Int32, Int32.ofInt (0) = v ∧ v.toInt = 0 := ⟨_, rfl, by decide +kernel⟩
    refine lv_iconst hx hb dX9_tread_20 ev18 ?_
    obtain ⟨v19, ev19, tv19⟩ : ∃ v : Int32, (Int8.ofInt (8)).toInt32 = v ∧ v.toInt = 8 := ⟨_, rfl, by decide +kernel⟩
    refine lv_bipush hx hb dX9_tread_21 ev19 ?_
    refine tc_si Z.1 Z.2.2.2.1 Z.2.2.2.2.1 Z.2.2.2.2.2 S12.1 (k_X9_within l D cy S12.2 a2 v18 v19) (va_cwS 3 hts gX9_tread_X9_within rfl rfl rfl (by decide +kernel) ⟨Nat.le_of_ble_eq_true rfl, Nat.le_of_ble_eq_true rfl⟩) rfl hl7.1 rfl (Nat.le_of_ble_eq_true rfl) dX9_tread_23 ⟨Nat.zero_le _, Nat.zero_le _⟩ (fun v23 E20 H21 k22 W20 I20 G20 p20 => ?_)
    obtain ⟨q20, p20_0, p20_1, p20_2⟩ := p20
    have q20 := q20.symm
    subst q20
    have S20 : Now D TB cy (va_A (va_pl L E) sz) s L τ E1 H21 k22 := ⟨W20, I20⟩
    refine lv_if_ne (tgt := 33) hx hb dX9_tread_26 (by decide) (fun c24 => ?_) (fun c24 => ?_)
    · skip
      have tc24 := nu_ne c24
      have uc24 : (0 : Int32).toInt = 0 := rfl
      refine lv_aload_n hx hb dX9_tread_33 rfl (lv_at hl7 0 rfl) ?_
      refine tr_getr Z.1 Z.2.2.2.1 S20.1 S20.2 hq5 tq5 rfl rfl (fun _ h => List.mem_cons_of_mem _ (List.mem_append_left _ (List.mem_append_left _ (List.mem_append_right _ h)))) 0 (by decide) rfl (hts _ (List.mem_of_getElem? (i := 2) rfl)) dX9_tread_34 (fun q25 eq25 hq25 tq25 => ?_)
      have tq25 : τ q25 = (30, 0) := tq25
      refine lv_iload_n hx hb dX9_tread_37 rfl (lv_at hl7 3 rfl) ?_
      refine tr_aaldr (ra := 100 + ((a2.toNatClampNeg : Nat) : Int)) (rb := 0) Z.1 Z.2.2.2.1 S20.1 S20.2 hq25 tq25 rfl rfl rfl rfl (by omega) (by omega) dX9_tread_38 (fun q26 eq26 hq26 tq26 => ?_)
      have nq26 : a2.toNatClampNeg ≤ 12 := by show a2.toInt.toNat ≤ 12; omega
      have tq26 : τ q26 = (100 + a2.toNatClampNeg, 0) := tq26.trans (Prod.ext (by show (100 + ((a2.toNatClampNeg : Nat) : Int)).toNat = 100 + a2.toNatClampNeg; omega) rfl)
      refine lv_iload_n hx hb dX9_tread_39 rfl (lv_at hl7 2 rfl) ?_
      refine tr_ialdw Z.1 Z.2.2.2.1 S20.1 S20.2 hq26 tq26 (row_tab (by omega)) (by omega) (by omega) dX9_tread_40 (fun v27 ev27 => ?_)
      rw [← hQ]
      exact en_i Z S20 F1 trivial dX9_tread_41
    · skip
      have tc24 := nu_eq c24
      have uc24 : (0 : Int32).toInt = 0 := rfl
      obtain ⟨v28, ev28, tv28⟩ : ∃ v : Int32, (Int16.ofInt (-10000)).toInt32 = v ∧ v.toInt = -10000 := ⟨_, rfl, by decide +kernel⟩
      refine lv_sipush hx hb dX9_tread_29 ev28 ?_
      rw [← hQ]
      exact en_i Z S20 F1 trivial dX9_tread_32

set_option maxRecDepth 20000 in
theorem ggX9_riser_X9_laidRows : GoodIn wsX9_riser wsX9_laidRows := goodIn_r _ [8, 9, 10, 2, 11, 12, 13, 14, 15, 16, 17, 18, 19, 20, 21, 22, 23, 24, 25, 26, 27, 28, 29, 30, 31, 32, 33, 34, 35, 36, 37, 38, 39, 40, 41, 7, 42, 43, 44, 45, 46, 47, 48, 49, 50, 51, 52, 53, 54, 55, 56, 57, 58, 59, 60, 61, 62, 63, 64, 65, 66, 67, 68, 69, 70, 71, 72, 73, 74, 84, 85, 86, 87, 88, 89, 90, 91, 92, 93, 94, 79, 80, 81, 82, 83, 95, 96, 97, 98, 99, 100, 101, 102, 103, 104, 105, 106, 107, 108, 109, 110] (by decide +kernel) (by decide +kernel)
set_option maxRecDepth 20000 in
theorem gX9_riser_X9_laidRows : GoodIn wsX9_riser (wsV RX9 121 RX9 yX9_laidRows wsX9_laidRows) := goodIn_app (goodIn_of _ (by decide +kernel)) ggX9_riser_X9_laidRows
set_option maxRecDepth 20000 in
theorem ggX9_riser_X9_within : GoodIn wsX9_riser wsX9_within := goodIn_r _ [77] (by decide +kernel) (by decide +kernel)
set_option maxRecDepth 20000 in
theorem gX9_riser_X9_within : GoodIn wsX9_riser (va_wsS RX9 73 yX9_within wsX9_within) := goodIn_app (goodIn_of _ (by decide +kernel)) ggX9_riser_X9_within
set_option maxRecDepth 20000 in
theorem ggX9_riser_X9_share : GoodIn wsX9_riser wsX9_share := goodIn_r _ [42] (by decide +kernel) (by decide +kernel)
set_option maxRecDepth 20000 in
theorem gX9_riser_X9_share : GoodIn wsX9_riser (va_wsS RX9 149 yX9_share wsX9_share) := goodIn_app (goodIn_of _ (by decide +kernel)) ggX9_riser_X9_share
theorem dX9_riser_0 : decode cX9_riser 0 = .ok (.aload_n 0, 1) := by decide +kernel
theorem dX9_riser_1 : decode cX9_riser 1 = .ok (.invokevirtual 121, 3) := by decide +kernel
theorem dX9_riser_4 : decode cX9_riser 4 = .ok (.getfield 125, 3) := by decide +kernel
theorem dX9_riser_7 : decode cX9_riser 7 = .ok (.istore_n 2, 1) := by decide +kernel
theorem dX9_riser_8 : decode cX9_riser 8 = .ok (.iload_n 1, 1) := by decide +kernel
theorem dX9_riser_9 : decode cX9_riser 9 = .ok (.iconst 0, 1) := by decide +kernel
theorem dX9_riser_10 : decode cX9_riser 10 = .ok (.iload_n 2, 1) := by decide +kernel
theorem dX9_riser_11 : decode cX9_riser 11 = .ok (.invokestatic 73, 3) := by decide +kernel
theorem dX9_riser_14 : decode cX9_riser 14 = .ok (.ifCond .eq 20, 3) := by decide +kernel
theorem dX9_riser_17 : decode cX9_riser 17 = .ok (.aload_n 0, 1) := by decide +kernel
theorem dX9_riser_18 : decode cX9_riser 18 = .ok (.getfield 10, 3) := by decide +kernel
theorem dX9_riser_21 : decode cX9_riser 21 = .ok (.getfield 84, 3) := by decide +kernel
theorem dX9_riser_24 : decode cX9_riser 24 = .ok (.iload_n 2, 1) := by decide +kernel
theorem dX9_riser_25 : decode cX9_riser 25 = .ok (.iconst 1, 1) := by decide +kernel
theorem dX9_riser_26 : decode cX9_riser 26 = .ok (.iadd, 1) := by decide +kernel
theorem dX9_riser_27 : decode cX9_riser 27 = .ok (.iload_n 1, 1) := by decide +kernel
theorem dX9_riser_28 : decode cX9_riser 28 = .ok (.invokestatic 149, 3) := by decide +kernel
theorem dX9_riser_31 : decode cX9_riser 31 = .ok (.goto 4, 3) := by decide +kernel
theorem dX9_riser_34 : decode cX9_riser 34 = .ok (.iconst (-1), 1) := by decide +kernel
theorem dX9_riser_35 : decode cX9_riser 35 = .ok (.ireturn, 1) := by decide +kernel
set_option maxHeartbeats 4000000 in
set_option maxRecDepth 100000 in
theorem k_X9_riser (l : Launch) (D : va_G) (cy : Nat → ClassId) {L : List Nat} {τ : Nat → Ro} {E : Ec} (hI : Inv TB cy L τ E) {a0 : Nat} (ha0 : a0 ∈ L) (ta0 : τ a0 = (0, 0)) (a1 : Int32) : CtI l yX9_riser wsX9_riser { frames := 5, cells := 0, slots := 0, locals := 114 } D TB cy L τ E [.ref a0, .int a1] (inW [(0, 0), (5, 0), (100, 0), (101, 0), (102, 0), (103, 0), (104, 0), (105, 0), (106, 0), (107, 0), (108, 0), (109, 0), (110, 0), (111, 0), (112, 0)]) (fun r E' => True) := by
  intro sz
  refine sta (cc := cX9_riser) (maxL := 3) hI (by decide) rfl (Nat.le_of_ble_eq_true rfl) (fun p e s m args below meth c ls hsz Z S0 hl => ?_)
  have hx := Z.1.1
  have hb := Z.1.2.1
  have hts := Z.1.2.2.2.2
  have F0_ : Fr L τ (inW [(0, 0), (5, 0), (100, 0), (101, 0), (102, 0), (103, 0), (104, 0), (105, 0), (106, 0), (107, 0), (108, 0), (109, 0), (110, 0), (111, 0), (112, 0)]) E E := Fr.refl
  have hl : lv_has ls 3 [(0, .ref a0), (1, .int a1)] := hl
  generalize hQ : MQ below _ args s 0 0 _ = QQ
  refine lv_aload_n hx hb dX9_riser_0 rfl (lv_at hl 0 rfl) ?_
  refine tc_vq Z.1 Z.2.2.2.1 Z.2.2.2.2.1 Z.2.2.2.2.2 S0.1 S0.2 ha0 ta0 rfl rfl (k_X9_laidRows l D cy S0.2 ha0 ta0) (cwV 0 hts gX9_riser_X9_laidRows rfl rfl rfl (by decide +kernel) ⟨Nat.le_of_ble_eq_true rfl, Nat.le_of_ble_eq_true rfl⟩) rfl hl.1 rfl (Nat.le_of_ble_eq_true rfl) dX9_riser_1 ⟨Nat.zero_le _, Nat.zero_le _⟩ (fun v4 E1 H2 k3 W1 I1 G1 p1 => ?_)
  have p1_0 := p1
  have S1 : Now D TB cy (va_A (va_pl L E) sz) s L τ E1 H2 k3 := ⟨W1, I1⟩
  have F1 : Fr L τ (inW [(0, 0), (5, 0), (100, 0), (101, 0), (102, 0), (103, 0), (104, 0), (105, 0), (106, 0), (107, 0), (108, 0), (109, 0), (110, 0), (111, 0), (112, 0)]) E E1 := F0_.trans (G1.mono (inW_mono (by decide)))
  obtain ⟨q5, rfl, hq5, tq5⟩ := p1_0
  refine W.eq (g2 := F0 m 4 ls [.ref q5]) rfl ?_
  refine tr_geti Z.1 Z.2.2.2.1 S1.1 S1.2 hq5 tq5 rfl rfl (fun _ h => List.mem_cons_of_mem _ (List.mem_append_left _ (List.mem_append_left _ (List.mem_append_right _ h)))) 1 (by decide) rfl (hts _ (List.mem_of_getElem? (i := 1) rfl)) dX9_riser_4 (fun v6 ev6 lv6 uv6 => ?_)
  refine lv_istore_n (lv' := [(2, .int v6), (0, .ref a0), (1, .int a1)]) hx hb dX9_riser_7 rfl hl (by decide) rfl (fun l7 hl8 => ?_)
  refine lv_iload_n hx hb dX9_riser_8 rfl (lv_at hl8 2 rfl) ?_
  obtain ⟨v9, ev9, tv9⟩ : ∃ v : Int32, Int32.ofInt (0) = v ∧ v.toInt = 0 := ⟨_, rfl, by decide +kernel⟩
  refine lv_iconst hx hb dX9_riser_9 ev9 ?_
  refine lv_iload_n hx hb dX9_riser_10 rfl (lv_at hl8 0 rfl) ?_
  refine tc_si Z.1 Z.2.2.2.1 Z.2.2.2.2.1 Z.2.2.2.2.2 S1.1 (k_X9_within l D cy S1.2 a1 v9 v6) (va_cwS 3 hts gX9_riser_X9_within rfl rfl rfl (by decide +kernel) ⟨Nat.le_of_ble_eq_true rfl, Nat.le_of_ble_eq_true rfl⟩) rfl hl8.1 rfl (Nat.le_of_ble_eq_true rfl) dX9_riser_11 ⟨Nat.zero_le _, Nat.zero_le _⟩ (fun v13 E10 H11 k12 W10 I10 G10 p10 => ?_)
  obtain ⟨q10, p10_0, p10_1, p10_2⟩ := p10
  have q10 := q10.symm
  subst q10
  have S10 : Now D TB cy (va_A (va_pl L E) sz) s L τ E1 H11 k12 := ⟨W10, I10⟩
  refine lv_if_eq (tgt := 34) hx hb dX9_riser_14 (by decide) (fun c14 => ?_) (fun c14 => ?_)
  · skip
    have tc14 := nu_eq c14
    have uc14 : (0 : Int32).toInt = 0 := rfl
    obtain ⟨v15, ev15, tv15⟩ : ∃ v : Int32, Int32.ofInt (-1) = v ∧ v.toInt = -1 := ⟨_, rfl, by decide +kernel⟩
    refine lv_iconst hx hb dX9_riser_34 ev15 ?_
    rw [← hQ]
    exact en_i Z S10 F1 trivial dX9_riser_35
  · skip
    have tc14 := nu_ne c14
    have uc14 : (0 : Int32).toInt = 0 := rfl
    refine lv_aload_n hx hb dX9_riser_17 rfl (lv_at hl8 1 rfl) ?_
    refine tr_getr Z.1 Z.2.2.2.1 S10.1 S10.2 ha0 ta0 rfl rfl (fun _ h => List.mem_cons_of_mem _ (List.mem_append_left _ (List.mem_append_right _ h))) 0 (by decide) rfl (hts _ (List.mem_of_getElem? (i := 2) rfl)) dX9_riser_18 (fun q16 eq16 hq16 tq16 => ?_)
    have tq16 : τ q16 = (1, 0) := tq16
    refine tr_geti Z.1 Z.2.2.2.1 S10.1 S10.2 hq16 tq16 rfl rfl (fun _ h => List.mem_cons_of_mem _ (List.mem_append_right _ h)) 0 (by decide) rfl (hts _ (List.mem_of_getElem? (i := 3) rfl)) dX9_riser_21 (fun v17 ev17 lv17 uv17 => ?_)
    refine lv_iload_n hx hb dX9_riser_24 rfl (lv_at hl8 0 rfl) ?_
    obtain ⟨v18, ev18, tv18⟩ : ∃ v : Int32, Int32.ofInt (1) = v ∧ v.toInt = 1 := ⟨_, rfl, by decide +kernel⟩
    refine lv_iconst hx hb dX9_riser_25 ev18 ?_
    refine lv_iadd hx hb dX9_riser_26 ?_
    refine lv_topi (fun v19 ev19 => ?_)
    have tv19 := nu_add ev19 (by omega) (by omega)
    refine lv_iload_n hx hb dX9_riser_27 rfl (lv_at hl8 2 rfl) ?_
    refine tc_si Z.1 Z.2.2.2.1 Z.2.2.2.2.1 Z.2.2.2.2.2 S10.1 (k_X9_share l D cy S10.2 v17 v19 a1) (va_cwS 3 hts gX9_riser_X9_share rfl rfl rfl (by decide +kernel) ⟨Nat.le_of_ble_eq_true rfl, Nat.le_of_ble_eq_true rfl⟩) rfl hl8.1 rfl (Nat.le_of_ble_eq_true rfl) dX9_riser_28 ⟨Nat.zero_le _, Nat.zero_le _⟩ (fun v23 E20 H21 k22 W20 I20 G20 p20 => ?_)
    have q20 := p20
    have q20 := q20.symm
    subst q20
    have S20 : Now D TB cy (va_A (va_pl L E) sz) s L τ E1 H21 k22 := ⟨W20, I20⟩
    refine lv_goto (tgt := 35) hx hb dX9_riser_31 (by decide) ?_
    rw [← hQ]
    exact en_i Z S20 F1 trivial dX9_riser_35

theorem dX9_fault_0 : decode cX9_fault 0 = .ok (.aload_n 0, 1) := by decide +kernel
theorem dX9_fault_1 : decode cX9_fault 1 = .ok (.getfield 40, 3) := by decide +kernel
theorem dX9_fault_4 : decode cX9_fault 4 = .ok (.getfield 188, 3) := by decide +kernel
theorem dX9_fault_7 : decode cX9_fault 7 = .ok (.ireturn, 1) := by decide +kernel
set_option maxHeartbeats 4000000 in
set_option maxRecDepth 100000 in
theorem k_X9_fault (l : Launch) (D : va_G) (cy : Nat → ClassId) {L : List Nat} {τ : Nat → Ro} {E : Ec} (hI : Inv TB cy L τ E) {a0 : Nat} (ha0 : a0 ∈ L) (ta0 : τ a0 = (0, 0)) : CtI l yX9_fault wsX9_fault { frames := 0, cells := 0, slots := 0, locals := 0 } D TB cy L τ E [.ref a0] (inW []) (fun r E' => E' = E) := by
  intro sz
  refine sta (cc := cX9_fault) (maxL := 1) hI (by decide) rfl (Nat.le_of_ble_eq_true rfl) (fun p e s m args below meth c ls hsz Z S0 hl => ?_)
  have hx := Z.1.1
  have hb := Z.1.2.1
  have hts := Z.1.2.2.2.2
  have F0_ : Fr L τ (inW []) E E := Fr.refl
  have hl : lv_has ls 1 [(0, .ref a0)] := hl
  generalize hQ : MQ below _ args s 0 0 _ = QQ
  refine lv_aload_n hx hb dX9_fault_0 rfl (lv_at hl 0 rfl) ?_
  refine tr_getr Z.1 Z.2.2.2.1 S0.1 S0.2 ha0 ta0 rfl rfl (fun _ h => List.mem_cons_of_mem _ (List.mem_append_left _ (List.mem_append_right _ h))) 4 (by decide) rfl (hts _ (List.mem_of_getElem? (i := 1) rfl)) dX9_fault_1 (fun q1 eq1 hq1 tq1 => ?_)
  have tq1 : τ q1 = (7, 0) := tq1
  refine tr_geti Z.1 Z.2.2.2.1 S0.1 S0.2 hq1 tq1 rfl rfl (fun _ h => List.mem_cons_of_mem _ (List.mem_append_right _ h)) 4 (by decide) rfl (hts _ (List.mem_of_getElem? (i := 2) rfl)) dX9_fault_4 (fun v2 ev2 lv2 uv2 => ?_)
  rw [← hQ]
  exact en_i Z S0 F0_ rfl dX9_fault_7

set_option maxRecDepth 20000 in
theorem ggX9_may_X9_laidRows : GoodIn wsX9_may wsX9_laidRows := goodIn_r _ [7, 8, 9, 2, 10, 11, 12, 13, 14, 15, 16, 17, 18, 19, 20, 21, 22, 23, 24, 25, 26, 27, 28, 29, 30, 31, 32, 33, 34, 35, 36, 37, 38, 39, 40, 6, 41, 42, 43, 44, 45, 46, 47, 48, 49, 50, 51, 52, 53, 54, 55, 56, 57, 58, 59, 60, 61, 62, 63, 64, 65, 66, 67, 68, 69, 70, 71, 72, 73, 122, 123, 124, 125, 126, 127, 128, 129, 130, 131, 132, 133, 134, 135, 136, 137, 138, 139, 140, 141, 142, 143, 144, 145, 146, 147, 148, 149, 150, 151, 152, 153] (by decide +kernel) (by decide +kernel)
set_option maxRecDepth 20000 in
theorem gX9_may_X9_laidRows : GoodIn wsX9_may (wsV RX9 121 RX9 yX9_laidRows wsX9_laidRows) := goodIn_app (goodIn_of _ (by decide +kernel)) ggX9_may_X9_laidRows
set_option maxRecDepth 20000 in
theorem ggX9_may_X8_firstBroken : GoodIn wsX9_may wsX8_firstBroken := goodIn_r _ [78, 79, 80, 81, 82, 83, 24, 84, 85, 86, 87, 6, 88, 89, 90, 91, 77, 92, 93, 94, 95, 96, 97, 98, 99, 100, 101, 102, 103, 104, 105, 106, 107, 108, 109, 110, 111, 112, 113, 114, 115, 116, 117, 118, 119, 120, 121, 138, 139, 140, 141, 142, 143, 144, 145, 146, 147, 148, 149, 150, 151, 152, 153, 154, 155, 156, 157, 133, 134, 135, 136, 137, 158, 159, 160, 161, 162, 163] (by decide +kernel) (by decide +kernel)
set_option maxRecDepth 20000 in
theorem gX9_may_X8_firstBroken : GoodIn wsX9_may (wsV RX9 191 RX8 yX8_firstBroken wsX8_firstBroken) := goodIn_app (goodIn_of _ (by decide +kernel)) ggX9_may_X8_firstBroken
theorem dX9_may_0 : decode cX9_may 0 = .ok (.aload_n 0, 1) := by decide +kernel
theorem dX9_may_1 : decode cX9_may 1 = .ok (.getfield 33, 3) := by decide +kernel
theorem dX9_may_4 : decode cX9_may 4 = .ok (.aload_n 0, 1) := by decide +kernel
theorem dX9_may_5 : decode cX9_may 5 = .ok (.getfield 10, 3) := by decide +kernel
theorem dX9_may_8 : decode cX9_may 8 = .ok (.aload_n 0, 1) := by decide +kernel
theorem dX9_may_9 : decode cX9_may 9 = .ok (.invokevirtual 121, 3) := by decide +kernel
theorem dX9_may_12 : decode cX9_may 12 = .ok (.invokevirtual 191, 3) := by decide +kernel
theorem dX9_may_15 : decode cX9_may 15 = .ok (.ireturn, 1) := by decide +kernel
set_option maxHeartbeats 4000000 in
set_option maxRecDepth 100000 in
theorem k_X9_may (l : Launch) (D : va_G) (cy : Nat → ClassId) {L : List Nat} {τ : Nat → Ro} {E : Ec} (hI : Inv TB cy L τ E) {a0 : Nat} (ha0 : a0 ∈ L) (ta0 : τ a0 = (0, 0)) : CtI l yX9_may wsX9_may { frames := 5, cells := 0, slots := 0, locals := 121 } D TB cy L τ E [.ref a0] (inW [(0, 0), (6, 0), (5, 0), (100, 0), (101, 0), (102, 0), (103, 0), (104, 0), (105, 0), (106, 0), (107, 0), (108, 0), (109, 0), (110, 0), (111, 0), (112, 0)]) (fun r E' => True) := by
  intro sz
  refine sta (cc := cX9_may) (maxL := 1) hI (by decide) rfl (Nat.le_of_ble_eq_true rfl) (fun p e s m args below meth c ls hsz Z S0 hl => ?_)
  have hx := Z.1.1
  have hb := Z.1.2.1
  have hts := Z.1.2.2.2.2
  have F0_ : Fr L τ (inW [(0, 0), (6, 0), (5, 0), (100, 0), (101, 0), (102, 0), (103, 0), (104, 0), (105, 0), (106, 0), (107, 0), (108, 0), (109, 0), (110, 0), (111, 0), (112, 0)]) E E := Fr.refl
  have hl : lv_has ls 1 [(0, .ref a0)] := hl
  generalize hQ : MQ below _ args s 0 0 _ = QQ
  refine lv_aload_n hx hb dX9_may_0 rfl (lv_at hl 0 rfl) ?_
  refine tr_getr Z.1 Z.2.2.2.1 S0.1 S0.2 ha0 ta0 rfl rfl (fun _ h => List.mem_cons_of_mem _ (List.mem_append_left _ (List.mem_append_left _ (List.mem_append_left _ (List.mem_append_left _ (List.mem_append_right _ h)))))) 3 (by decide) rfl (hts _ (List.mem_of_getElem? (i := 1) rfl)) dX9_may_1 (fun q1 eq1 hq1 tq1 => ?_)
  have tq1 : τ q1 = (6, 0) := tq1
  refine lv_aload_n hx hb dX9_may_4 rfl (lv_at hl 0 rfl) ?_
  refine tr_getr Z.1 Z.2.2.2.1 S0.1 S0.2 ha0 ta0 rfl rfl (fun _ h => List.mem_cons_of_mem _ (List.mem_append_left _ (List.mem_append_left _ (List.mem_append_left _ (List.mem_append_left _ (List.mem_append_right _ h)))))) 0 (by decide) rfl (hts _ (List.mem_of_getElem? (i := 2) rfl)) dX9_may_5 (fun q2 eq2 hq2 tq2 => ?_)
  have tq2 : τ q2 = (1, 0) := tq2
  refine lv_aload_n hx hb dX9_may_8 rfl (lv_at hl 0 rfl) ?_
  refine tc_vq Z.1 Z.2.2.2.1 Z.2.2.2.2.1 Z.2.2.2.2.2 S0.1 S0.2 ha0 ta0 rfl rfl (k_X9_laidRows l D cy S0.2 ha0 ta0) (cwV 0 hts gX9_may_X9_laidRows rfl rfl rfl (by decide +kernel) ⟨Nat.le_of_ble_eq_true rfl, Nat.le_of_ble_eq_true rfl⟩) rfl hl.1 rfl (Nat.le_of_ble_eq_true rfl) dX9_may_9 ⟨Nat.zero_le _, Nat.zero_le _⟩ (fun v6 E3 H4 k5 W3 I3 G3 p3 => ?_)
  have p3_0 := p3
  have S3 : Now D TB cy (va_A (va_pl L E) sz) s L τ E3 H4 k5 := ⟨W3, I3⟩
  have F3 : Fr L τ (inW [(0, 0), (6, 0), (5, 0), (100, 0), (101, 0), (102, 0), (103, 0), (104, 0), (105, 0), (106, 0), (107, 0), (108, 0), (109, 0), (110, 0), (111, 0), (112, 0)]) E E3 := F0_.trans (G3.mono (inW_mono (by decide)))
  obtain ⟨q7, rfl, hq7, tq7⟩ := p3_0
  refine W.eq (g2 := F0 m 12 ls [.ref q7, .ref q2, .ref q1]) rfl ?_
  refine tc_vi Z.1 Z.2.2.2.1 Z.2.2.2.2.1 Z.2.2.2.2.2 S3.1 S3.2 hq1 tq1 rfl rfl (k_X8_firstBroken_v0 l D cy S3.2 hq1 tq1 hq2 tq2 hq7 tq7) (cwV 2 hts gX9_may_X8_firstBroken rfl rfl rfl (by decide +kernel) ⟨Nat.le_of_ble_eq_true rfl, Nat.le_of_ble_eq_true rfl⟩) rfl hl.1 rfl (Nat.le_of_ble_eq_true rfl) dX9_may_12 ⟨Nat.zero_le _, Nat.zero_le _⟩ (fun v11 E8 H9 k10 W8 I8 G8 p8 => ?_)
  have S8 : Now D TB cy (va_A (va_pl L E) sz) s L τ E8 H9 k10 := ⟨W8, I8⟩
  have F8 : Fr L τ (inW [(0, 0), (6, 0), (5, 0), (100, 0), (101, 0), (102, 0), (103, 0), (104, 0), (105, 0), (106, 0), (107, 0), (108, 0), (109, 0), (110, 0), (111, 0), (112, 0)]) E E8 := F3.trans (G8.mono (inW_mono (by decide)))
  rw [← hQ]
  exact en_i Z S8 F8 trivial dX9_may_15

set_option maxRecDepth 20000 in
theorem ggX9_askedLaw_X4_lawAt : GoodIn wsX9_askedLaw wsX4_lawAt := goodIn_r _ [7, 8, 9, 10, 11, 12, 25, 26, 27, 28, 29, 30, 31, 32, 33, 34, 35, 36, 37, 38, 39, 40] (by decide +kernel) (by decide +kernel)
set_option maxRecDepth 20000 in
theorem gX9_askedLaw_X4_lawAt : GoodIn wsX9_askedLaw (wsV RX9 291 RX4 yX4_lawAt wsX4_lawAt) := goodIn_app (goodIn_of _ (by decide +kernel)) ggX9_askedLaw_X4_lawAt
set_option maxRecDepth 20000 in
theorem ggX9_askedLaw_X9_within : GoodIn wsX9_askedLaw wsX9_within := goodIn_r _ [12] (by decide +kernel) (by decide +kernel)
set_option maxRecDepth 20000 in
theorem gX9_askedLaw_X9_within : GoodIn wsX9_askedLaw (va_wsS RX9 73 yX9_within wsX9_within) := goodIn_app (goodIn_of _ (by decide +kernel)) ggX9_askedLaw_X9_within
theorem dX9_askedLaw_0 : decode cX9_askedLaw 0 = .ok (.aload_n 0, 1) := by decide +kernel
theorem dX9_askedLaw_1 : decode cX9_askedLaw 1 = .ok (.getfield 10, 3) := by decide +kernel
theorem dX9_askedLaw_4 : decode cX9_askedLaw 4 = .ok (.iload_n 1, 1) := by decide +kernel
theorem dX9_askedLaw_5 : decode cX9_askedLaw 5 = .ok (.invokevirtual 291, 3) := by decide +kernel
theorem dX9_askedLaw_8 : decode cX9_askedLaw 8 = .ok (.astore_n 3, 1) := by decide +kernel
theorem dX9_askedLaw_9 : decode cX9_askedLaw 9 = .ok (.aload_n 3, 1) := by decide +kernel
theorem dX9_askedLaw_10 : decode cX9_askedLaw 10 = .ok (.ifnonnull 10, 3) := by decide +kernel
theorem dX9_askedLaw_13 : decode cX9_askedLaw 13 = .ok (.aload_n 0, 1) := by decide +kernel
theorem dX9_askedLaw_14 : decode cX9_askedLaw 14 = .ok (.iconst 4, 1) := by decide +kernel
theorem dX9_askedLaw_15 : decode cX9_askedLaw 15 = .ok (.putfield 66, 3) := by decide +kernel
theorem dX9_askedLaw_18 : decode cX9_askedLaw 18 = .ok (.aconst_null, 1) := by decide +kernel
theorem dX9_askedLaw_19 : decode cX9_askedLaw 19 = .ok (.areturn, 1) := by decide +kernel
theorem dX9_askedLaw_20 : decode cX9_askedLaw 20 = .ok (.aload_n 0, 1) := by decide +kernel
theorem dX9_askedLaw_21 : decode cX9_askedLaw 21 = .ok (.iload_n 2, 1) := by decide +kernel
theorem dX9_askedLaw_22 : decode cX9_askedLaw 22 = .ok (.iconst 0, 1) := by decide +kernel
theorem dX9_askedLaw_23 : decode cX9_askedLaw 23 = .ok (.iconst 3, 1) := by decide +kernel
theorem dX9_askedLaw_24 : decode cX9_askedLaw 24 = .ok (.invokestatic 73, 3) := by decide +kernel
theorem dX9_askedLaw_27 : decode cX9_askedLaw 27 = .ok (.ifCond .eq 7, 3) := by decide +kernel
theorem dX9_askedLaw_30 : decode cX9_askedLaw 30 = .ok (.iconst 0, 1) := by decide +kernel
theorem dX9_askedLaw_31 : decode cX9_askedLaw 31 = .ok (.goto 4, 3) := by decide +kernel
theorem dX9_askedLaw_34 : decode cX9_askedLaw 34 = .ok (.iconst 1, 1) := by decide +kernel
theorem dX9_askedLaw_35 : decode cX9_askedLaw 35 = .ok (.putfield 66, 3) := by decide +kernel
theorem dX9_askedLaw_38 : decode cX9_askedLaw 38 = .ok (.aload_n 0, 1) := by decide +kernel
theorem dX9_askedLaw_39 : decode cX9_askedLaw 39 = .ok (.getfield 66, 3) := by decide +kernel
theorem dX9_askedLaw_42 : decode cX9_askedLaw 42 = .ok (.ifCond .ne 7, 3) := by decide +kernel
theorem dX9_askedLaw_45 : decode cX9_askedLaw 45 = .ok (.aload_n 3, 1) := by decide +kernel
theorem dX9_askedLaw_46 : decode cX9_askedLaw 46 = .ok (.goto 4, 3) := by decide +kernel
theorem dX9_askedLaw_49 : decode cX9_askedLaw 49 = .ok (.aconst_null, 1) := by decide +kernel
theorem dX9_askedLaw_50 : decode cX9_askedLaw 50 = .ok (.areturn, 1) := by decide +kernel
set_option maxHeartbeats 4000000 in
set_option maxRecDepth 100000 in
theorem k_X9_askedLaw (l : Launch) (D : va_G) (cy : Nat → ClassId) {L : List Nat} {τ : Nat → Ro} {E : Ec} (hI : Inv TB cy L τ E) {a0 : Nat} (ha0 : a0 ∈ L) (ta0 : τ a0 = (0, 0)) (a1 : Int32) (a2 : Int32) : CtQ l yX9_askedLaw wsX9_askedLaw { frames := 2, cells := 0, slots := 0, locals := 43 } D TB cy L τ E [.ref a0, .int a1, .int a2] (inW [(0, 0)]) (fun r E' => (∀ q : Nat, r = some q → q ∈ L ∧ (τ q).1 = 10)) := by
  intro sz
  refine sta (cc := cX9_askedLaw) (maxL := 4) hI (by decide) rfl (Nat.le_of_ble_eq_true rfl) (fun p e s m args below meth c ls hsz Z S0 hl => ?_)
  have hx := Z.1.1
  have hb := Z.1.2.1
  have hts := Z.1.2.2.2.2
  have F0_ : Fr L τ (inW [(0, 0)]) E E := Fr.refl
  have hl : lv_has ls 4 [(0, .ref a0), (1, .int a1), (2, .int a2)] := hl
  generalize hQ : MQ below _ args s 0 0 _ = QQ
  have J35 : ∀ (x3_35 : Nat) (y0_35 : Nat) (y1_35 : Int32) (E_35 : Ec) (H_35 : Heap) (k_35 : List Loc) (l_35 : Array Slot), Now D TB cy (va_A (va_pl L E) sz) s L τ E_35 H_35 k_35 → Fr L τ (inW [(0, 0)]) E E_35 → (x3_35 ∈ L) → ((τ x3_35).1 = 10) → (y0_35 ∈ L) → (τ y0_35 = (0, 0)) → (0 ≤ y1_35.toInt) → (y1_35.toInt ≤ 1) → lv_has l_35 4 [(0, .ref a0), (3, .ref x3_35)] → W p l e { frames := 2, cells := 0, slots := 0, locals := 43 } s m args below meth c H_35 k_35 0 0 QQ (F0 m 35 l_35 [.int y1_35, .ref y0_35]) := by
    intro x3_35 y0_35 y1_35 E_35 H_35 k_35 l_35 S_35 F_35 z1 z2 z3 z4 z5 z6 hl_35
    obtain ⟨nx3_35, tx3_35⟩ : ∃ n : Nat, τ x3_35 = (10, n) := ⟨(τ x3_35).2, by rw [← z2]⟩
    refine tr_puti Z.1 Z.2.2.2.1 S_35.1 S_35.2 z3 z4 rfl rfl (fun _ h => List.mem_cons_of_mem _ (List.mem_append_left _ (List.mem_append_right _ h))) tyX9_ok nmX9 9 (by decide) rfl rfl rfl (hts _ (List.mem_of_getElem? (i := 2) rfl)) dX9_askedLaw_35 (by have := fb_rng y1_35; omega) (by have := fb_rng y1_35; omega) (fun E7 H8 k9 W7 I7 P7 => ?_)
    have S7 : Now D TB cy (va_A (va_pl L E) sz) s L τ E7 H8 k9 := ⟨W7, I7⟩
    have F7 : Fr L τ (inW [(0, 0)]) E E7 := Fr.put F_35 P7 z4 rfl
    refine lv_aload_n hx hb dX9_askedLaw_38 rfl (lv_at hl_35 0 rfl) ?_
    refine tr_geti Z.1 Z.2.2.2.1 S7.1 S7.2 ha0 ta0 rfl rfl (fun _ h => List.mem_cons_of_mem _ (List.mem_append_left _ (List.mem_append_right _ h))) 9 (by decide) rfl (hts _ (List.mem_of_getElem? (i := 2) rfl)) dX9_askedLaw_39 (fun v10 ev10 lv10 uv10 => ?_)
    refine lv_if_ne (tgt := 49) hx hb dX9_askedLaw_42 (by decide) (fun c11 => ?_) (fun c11 => ?_)
    · skip
      have tc11 := nu_ne c11
      have uc11 : (0 : Int32).toInt = 0 := rfl
      refine lv_null hx hb dX9_askedLaw_49 ?_
      rw [← hQ]
      exact en_q (x := none) Z (by first | exact Or.inl ⟨_, rfl⟩ | exact Or.inr ⟨_, rfl⟩) S7 F7 (fun _ h => nomatch h) dX9_askedLaw_50
    · skip
      have tc11 := nu_eq c11
      have uc11 : (0 : Int32).toInt = 0 := rfl
      refine lv_aload_n hx hb dX9_askedLaw_45 rfl (lv_at hl_35 1 rfl) ?_
      refine lv_goto (tgt := 50) hx hb dX9_askedLaw_46 (by decide) ?_
      rw [← hQ]
      exact en_q (x := some x3_35) Z (by first | exact Or.inl ⟨_, rfl⟩ | exact Or.inr ⟨_, rfl⟩) S7 F7 (fun y h => by cases h; exact ⟨z1, by rw [tx3_35]⟩) dX9_askedLaw_50
  refine lv_aload_n hx hb dX9_askedLaw_0 rfl (lv_at hl 0 rfl) ?_
  refine tr_getr Z.1 Z.2.2.2.1 S0.1 S0.2 ha0 ta0 rfl rfl (fun _ h => List.mem_cons_of_mem _ (List.mem_append_left _ (List.mem_append_right _ h))) 0 (by decide) rfl (hts _ (List.mem_of_getElem? (i := 1) rfl)) dX9_askedLaw_1 (fun q12 eq12 hq12 tq12 => ?_)
  have tq12 : τ q12 = (1, 0) := tq12
  refine lv_iload_n hx hb dX9_askedLaw_4 rfl (lv_at hl 1 rfl) ?_
  refine tc_vq Z.1 Z.2.2.2.1 Z.2.2.2.2.1 Z.2.2.2.2.2 S0.1 S0.2 hq12 tq12 rfl rfl (k_X4_lawAt_v0 l D cy S0.2 hq12 tq12 a1) (cwV 1 hts gX9_askedLaw_X4_lawAt rfl rfl rfl (by decide +kernel) ⟨Nat.le_of_ble_eq_true rfl, Nat.le_of_ble_eq_true rfl⟩) rfl hl.1 rfl (Nat.le_of_ble_eq_true rfl) dX9_askedLaw_5 ⟨Nat.zero_le _, Nat.zero_le _⟩ (fun v16 E13 H14 k15 W13 I13 G13 p13 => ?_)
  obtain ⟨q13, p13_0⟩ := p13
  have q13 := q13.symm
  subst q13
  have S13 : Now D TB cy (va_A (va_pl L E) sz) s L τ E H14 k15 := ⟨W13, I13⟩
  cases v16 with
  | none =>
    refine W.eq (g2 := F0 m 8 ls [.null]) rfl ?_
    refine lv_astore_nN (lv' := [(3, .null), (0, .ref a0), (1, .int a1), (2, .int a2)]) hx hb dX9_askedLaw_8 rfl hl (by decide) rfl (fun l17 hl18 => ?_)
    refine lv_aload_nN hx hb dX9_askedLaw_9 rfl (lv_at hl18 0 rfl) ?_
    refine lv_ifnonnullN hx hb dX9_askedLaw_10 ?_
    refine lv_aload_n hx hb dX9_askedLaw_13 rfl (lv_at hl18 1 rfl) ?_
    obtain ⟨v19, ev19, tv19⟩ : ∃ v : Int32, Int32.ofInt (4) = v ∧ v.toInt = 4 := ⟨_, rfl, by decide +kernel⟩
    refine lv_iconst hx hb dX9_askedLaw_14 ev19 ?_
    refine tr_puti Z.1 Z.2.2.2.1 S13.1 S13.2 ha0 ta0 rfl rfl (fun _ h => List.mem_cons_of_mem _ (List.mem_append_left _ (List.mem_append_right _ h))) tyX9_ok nmX9 9 (by decide) rfl rfl rfl (hts _ (List.mem_of_getElem? (i := 2) rfl)) dX9_askedLaw_15 (by have := fb_rng v19; omega) (by have := fb_rng v19; omega) (fun E20 H21 k22 W20 I20 P20 => ?_)
    have S20 : Now D TB cy (va_A (va_pl L E) sz) s L τ E20 H21 k22 := ⟨W20, I20⟩
    have F20 : Fr L τ (inW [(0, 0)]) E E20 := Fr.put F0_ P20 ta0 rfl
    refine lv_null hx hb dX9_askedLaw_18 ?_
    rw [← hQ]
    exact en_q (x := none) Z (by first | exact Or.inl ⟨_, rfl⟩ | exact Or.inr ⟨_, rfl⟩) S20 F20 (fun _ h => nomatch h) dX9_askedLaw_19
  | some q23 =>
    obtain ⟨hq23, gq23⟩ := p13_0 q23 rfl
    obtain ⟨nq23, tq23⟩ : ∃ n : Nat, τ q23 = (10, n) := ⟨(τ q23).2, by rw [← gq23]⟩
    refine W.eq (g2 := F0 m 8 ls [.ref q23]) rfl ?_
    refine lv_astore_n (lv' := [(3, .ref q23), (0, .ref a0), (1, .int a1), (2, .int a2)]) hx hb dX9_askedLaw_8 rfl hl (by decide) rfl (fun l24 hl25 => ?_)
    refine lv_aload_n hx hb dX9_askedLaw_9 rfl (lv_at hl25 0 rfl) ?_
    refine lv_ifnonnull (tgt := 20) hx hb dX9_askedLaw_10 (by decide) ?_
    refine lv_aload_n hx hb dX9_askedLaw_20 rfl (lv_at hl25 1 rfl) ?_
    refine lv_iload_n hx hb dX9_askedLaw_21 rfl (lv_at hl25 3 rfl) ?_
    obtain ⟨v26, ev26, tv26⟩ : ∃ v : Int32, Int32.ofInt (0) = v ∧ v.toInt = 0 := ⟨_, rfl, by decide +kernel⟩
    refine lv_iconst hx hb dX9_askedLaw_22 ev26 ?_
    obtain ⟨v27, ev27, tv27⟩ : ∃ v : Int32, Int32.ofInt (3) = v ∧ v.toInt = 3 := ⟨_, rfl, by decide +kernel⟩
    refine lv_iconst hx hb dX9_askedLaw_23 ev27 ?_
    refine tc_si Z.1 Z.2.2.2.1 Z.2.2.2.2.1 Z.2.2.2.2.2 S13.1 (k_X9_within l D cy S13.2 a2 v26 v27) (va_cwS 3 hts gX9_askedLaw_X9_within rfl rfl rfl (by decide +kernel) ⟨Nat.le_of_ble_eq_true rfl, Nat.le_of_ble_eq_true rfl⟩) rfl hl25.1 rfl (Nat.le_of_ble_eq_true rfl) dX9_askedLaw_24 ⟨Nat.zero_le _, Nat.zero_le _⟩ (fun v31 E28 H29 k30 W28 I28 G28 p28 => ?_)
    obtain ⟨q28, p28_0, p28_1, p28_2⟩ := p28
    have q28 := q28.symm
    subst q28
    have S28 : Now D TB cy (va_A (va_pl L E) sz) s L τ E H29 k30 := ⟨W28, I28⟩
    refine lv_if_eq (tgt := 34) hx hb dX9_askedLaw_27 (by decide) (fun c32 => ?_) (fun c32 => ?_)
    · skip
      have tc32 := nu_eq c32
      have uc32 : (0 : Int32).toInt = 0 := rfl
      obtain ⟨v33, ev33, tv33⟩ : ∃ v : Int32, Int32.ofInt (1) = v ∧ v.toInt = 1 := ⟨_, rfl, by decide +kernel⟩
      refine lv_iconst hx hb dX9_askedLaw_34 ev33 ?_
      exact J35 q23 a0 v33 E H29 k30 l24 S28 F0_ hq23 (by rw [tq23]) ha0 ta0 (by have := fb_rng a1; have := fb_rng a2; omega) (by have := fb_rng a1; have := fb_rng a2; omega) (lv_sub hl25 [1, 0] rfl)
    · skip
      have tc32 := nu_ne c32
      have uc32 : (0 : Int32).toInt = 0 := rfl
      obtain ⟨v34, ev34, tv34⟩ : ∃ v : Int32, Int32.ofInt (0) = v ∧ v.toInt = 0 := ⟨_, rfl, by decide +kernel⟩
      refine lv_iconst hx hb dX9_askedLaw_30 ev34 ?_
      refine lv_goto (tgt := 35) hx hb dX9_askedLaw_31 (by decide) ?_
      exact J35 q23 a0 v34 E H29 k30 l24 S28 F0_ hq23 (by rw [tq23]) ha0 ta0 (by have := fb_rng a1; omega) (by have := fb_rng a1; omega) (lv_sub hl25 [1, 0] rfl)

set_option maxRecDepth 20000 in
theorem ggX9_broken_X9_askedLaw : GoodIn wsX9_broken wsX9_askedLaw := goodIn_r _ [10, 11, 12, 13, 14, 15, 16, 17, 18, 19, 20, 9, 21, 22, 127, 128, 129, 130, 131, 132, 133, 134, 135, 136, 137, 142, 143, 144, 145, 146, 147, 148, 149, 150, 151, 152, 153, 154, 155, 156, 157] (by decide +kernel) (by decide +kernel)
set_option maxRecDepth 20000 in
theorem gX9_broken_X9_askedLaw : GoodIn wsX9_broken (wsV RX9 195 RX9 yX9_askedLaw wsX9_askedLaw) := goodIn_app (goodIn_of _ (by decide +kernel)) ggX9_broken_X9_askedLaw
set_option maxRecDepth 20000 in
theorem ggX9_broken_X9_laidRows : GoodIn wsX9_broken wsX9_laidRows := goodIn_r _ [26, 27, 28, 11, 29, 30, 31, 32, 33, 34, 35, 36, 37, 38, 39, 40, 41, 42, 16, 43, 44, 45, 46, 47, 48, 49, 50, 51, 52, 53, 54, 55, 56, 57, 58, 9, 59, 60, 61, 62, 63, 64, 65, 66, 67, 68, 69, 70, 71, 72, 73, 74, 75, 76, 77, 78, 79, 80, 81, 82, 83, 84, 85, 86, 87, 88, 89, 90, 91, 127, 128, 129, 130, 131, 132, 133, 134, 135, 136, 137, 158, 159, 160, 161, 162, 142, 143, 144, 145, 146, 147, 148, 149, 150, 151, 152, 153, 154, 155, 156, 157] (by decide +kernel) (by decide +kernel)
set_option maxRecDepth 20000 in
theorem gX9_broken_X9_laidRows : GoodIn wsX9_broken (wsV RX9 121 RX9 yX9_laidRows wsX9_laidRows) := goodIn_app (goodIn_of _ (by decide +kernel)) ggX9_broken_X9_laidRows
set_option maxRecDepth 20000 in
theorem ggX9_broken_X8_judge : GoodIn wsX9_broken wsX8_judge := goodIn_r _ [96, 97, 98, 99, 100, 101, 102, 103, 104, 105, 106, 107, 108, 109, 110, 111, 112, 113, 114, 115, 116, 117, 118, 119, 120, 121, 122, 123, 124, 95, 125, 126, 158, 159, 160, 161, 162, 163, 164, 165, 166, 167, 168, 138, 139, 140, 141] (by decide +kernel) (by decide +kernel)
set_option maxRecDepth 20000 in
theorem gX9_broken_X8_judge : GoodIn wsX9_broken (wsV RX9 199 RX8 yX8_judge wsX8_judge) := goodIn_app (goodIn_of _ (by decide +kernel)) ggX9_broken_X8_judge
theorem dX9_broken_0 : decode cX9_broken 0 = .ok (.aload_n 0, 1) := by decide +kernel
theorem dX9_broken_1 : decode cX9_broken 1 = .ok (.iload_n 1, 1) := by decide +kernel
theorem dX9_broken_2 : decode cX9_broken 2 = .ok (.iload_n 2, 1) := by decide +kernel
theorem dX9_broken_3 : decode cX9_broken 3 = .ok (.invokevirtual 195, 3) := by decide +kernel
theorem dX9_broken_6 : decode cX9_broken 6 = .ok (.astore_n 3, 1) := by decide +kernel
theorem dX9_broken_7 : decode cX9_broken 7 = .ok (.aload_n 3, 1) := by decide +kernel
theorem dX9_broken_8 : decode cX9_broken 8 = .ok (.ifnonnull 5, 3) := by decide +kernel
theorem dX9_broken_11 : decode cX9_broken 11 = .ok (.iconst (-1), 1) := by decide +kernel
theorem dX9_broken_12 : decode cX9_broken 12 = .ok (.ireturn, 1) := by decide +kernel
theorem dX9_broken_13 : decode cX9_broken 13 = .ok (.aload_n 0, 1) := by decide +kernel
theorem dX9_broken_14 : decode cX9_broken 14 = .ok (.getfield 33, 3) := by decide +kernel
theorem dX9_broken_17 : decode cX9_broken 17 = .ok (.aload_n 3, 1) := by decide +kernel
theorem dX9_broken_18 : decode cX9_broken 18 = .ok (.aload_n 0, 1) := by decide +kernel
theorem dX9_broken_19 : decode cX9_broken 19 = .ok (.invokevirtual 121, 3) := by decide +kernel
theorem dX9_broken_22 : decode cX9_broken 22 = .ok (.invokevirtual 199, 3) := by decide +kernel
theorem dX9_broken_25 : decode cX9_broken 25 = .ok (.iload_n 2, 1) := by decide +kernel
theorem dX9_broken_26 : decode cX9_broken 26 = .ok (.tableswitch 58 0 2 #[26, 42, 50], 26) := by decide +kernel
theorem dX9_broken_52 : decode cX9_broken 52 = .ok (.aload_n 0, 1) := by decide +kernel
theorem dX9_broken_53 : decode cX9_broken 53 = .ok (.getfield 33, 3) := by decide +kernel
theorem dX9_broken_56 : decode cX9_broken 56 = .ok (.getfield 203, 3) := by decide +kernel
theorem dX9_broken_59 : decode cX9_broken 59 = .ok (.ifCond .eq 7, 3) := by decide +kernel
theorem dX9_broken_62 : decode cX9_broken 62 = .ok (.iconst 1, 1) := by decide +kernel
theorem dX9_broken_63 : decode cX9_broken 63 = .ok (.goto 4, 3) := by decide +kernel
theorem dX9_broken_66 : decode cX9_broken 66 = .ok (.iconst 0, 1) := by decide +kernel
theorem dX9_broken_67 : decode cX9_broken 67 = .ok (.ireturn, 1) := by decide +kernel
theorem dX9_broken_68 : decode cX9_broken 68 = .ok (.aload_n 0, 1) := by decide +kernel
theorem dX9_broken_69 : decode cX9_broken 69 = .ok (.getfield 33, 3) := by decide +kernel
theorem dX9_broken_72 : decode cX9_broken 72 = .ok (.getfield 206, 3) := by decide +kernel
theorem dX9_broken_75 : decode cX9_broken 75 = .ok (.ireturn, 1) := by decide +kernel
theorem dX9_broken_76 : decode cX9_broken 76 = .ok (.aload_n 0, 1) := by decide +kernel
theorem dX9_broken_77 : decode cX9_broken 77 = .ok (.getfield 33, 3) := by decide +kernel
theorem dX9_broken_80 : decode cX9_broken 80 = .ok (.getfield 209, 3) := by decide +kernel
theorem dX9_broken_83 : decode cX9_broken 83 = .ok (.ireturn, 1) := by decide +kernel
theorem dX9_broken_84 : decode cX9_broken 84 = .ok (.aload_n 0, 1) := by decide +kernel
theorem dX9_broken_85 : decode cX9_broken 85 = .ok (.getfield 33, 3) := by decide +kernel
theorem dX9_broken_88 : decode cX9_broken 88 = .ok (.getfield 212, 3) := by decide +kernel
theorem dX9_broken_91 : decode cX9_broken 91 = .ok (.ireturn, 1) := by decide +kernel
set_option maxHeartbeats 4000000 in
set_option maxRecDepth 100000 in
theorem k_X9_broken (l : Launch) (D : va_G) (cy : Nat → ClassId) {L : List Nat} {τ : Nat → Ro} {E : Ec} (hI : Inv TB cy L τ E) {a0 : Nat} (ha0 : a0 ∈ L) (ta0 : τ a0 = (0, 0)) (a1 : Int32) (a2 : Int32) : CtI l yX9_broken wsX9_broken { frames := 5, cells := 0, slots := 0, locals := 114 } D TB cy L τ E [.ref a0, .int a1, .int a2] (inW [(0, 0), (6, 0), (5, 0), (100, 0), (101, 0), (102, 0), (103, 0), (104, 0), (105, 0), (106, 0), (107, 0), (108, 0), (109, 0), (110, 0), (111, 0), (112, 0)]) (fun r E' => True) := by
  intro sz
  refine sta (cc := cX9_broken) (maxL := 4) hI (by decide) rfl (Nat.le_of_ble_eq_true rfl) (fun p e s m args below meth c ls hsz Z S0 hl => ?_)
  have hx := Z.1.1
  have hb := Z.1.2.1
  have hts := Z.1.2.2.2.2
  have F0_ : Fr L τ (inW [(0, 0), (6, 0), (5, 0), (100, 0), (101, 0), (102, 0), (103, 0), (104, 0), (105, 0), (106, 0), (107, 0), (108, 0), (109, 0), (110, 0), (111, 0), (112, 0)]) E E := Fr.refl
  have hl : lv_has ls 4 [(0, .ref a0), (1, .int a1), (2, .int a2)] := hl
  generalize hQ : MQ below _ args s 0 0 _ = QQ
  refine lv_aload_n hx hb dX9_broken_0 rfl (lv_at hl 0 rfl) ?_
  refine lv_iload_n hx hb dX9_broken_1 rfl (lv_at hl 1 rfl) ?_
  refine lv_iload_n hx hb dX9_broken_2 rfl (lv_at hl 2 rfl) ?_
  refine tc_vq Z.1 Z.2.2.2.1 Z.2.2.2.2.1 Z.2.2.2.2.2 S0.1 S0.2 ha0 ta0 rfl rfl (k_X9_askedLaw l D cy S0.2 ha0 ta0 a1 a2) (cwV 2 hts gX9_broken_X9_askedLaw rfl rfl rfl (by decide +kernel) ⟨Nat.le_of_ble_eq_true rfl, Nat.le_of_ble_eq_true rfl⟩) rfl hl.1 rfl (Nat.le_of_ble_eq_true rfl) dX9_broken_3 ⟨Nat.zero_le _, Nat.zero_le _⟩ (fun v4 E1 H2 k3 W1 I1 G1 p1 => ?_)
  have p1_0 := p1
  have S1 : Now D TB cy (va_A (va_pl L E) sz) s L τ E1 H2 k3 := ⟨W1, I1⟩
  have F1 : Fr L τ (inW [(0, 0), (6, 0), (5, 0), (100, 0), (101, 0), (102, 0), (103, 0), (104, 0), (105, 0), (106, 0), (107, 0), (108, 0), (109, 0), (110, 0), (111, 0), (112, 0)]) E E1 := F0_.trans (G1.mono (inW_mono (by decide)))
  cases v4 with
  | none =>
    refine W.eq (g2 := F0 m 6 ls [.null]) rfl ?_
    refine lv_astore_nN (lv' := [(3, .null), (0, .ref a0), (1, .int a1), (2, .int a2)]) hx hb dX9_broken_6 rfl hl (by decide) rfl (fun l5 hl6 => ?_)
    refine lv_aload_nN hx hb dX9_broken_7 rfl (lv_at hl6 0 rfl) ?_
    refine lv_ifnonnullN hx hb dX9_broken_8 ?_
    obtain ⟨v7, ev7, tv7⟩ : ∃ v : Int32, Int32.ofInt (-1) = v ∧ v.toInt = -1 := ⟨_, rfl, by decide +kernel⟩
    refine lv_iconst hx hb dX9_broken_11 ev7 ?_
    rw [← hQ]
    exact en_i Z S1 F1 trivial dX9_broken_12
  | some q8 =>
    obtain ⟨hq8, gq8⟩ := p1_0 q8 rfl
    obtain ⟨nq8, tq8⟩ : ∃ n : Nat, τ q8 = (10, n) := ⟨(τ q8).2, by rw [← gq8]⟩
    refine W.eq (g2 := F0 m 6 ls [.ref q8]) rfl ?_
    refine lv_astore_n (lv' := [(3, .ref q8), (0, .ref a0), (1, .int a1), (2, .int a2)]) hx hb dX9_broken_6 rfl hl (by decide) rfl (fun l9 hl10 => ?_)
    refine lv_aload_n hx hb dX9_broken_7 rfl (lv_at hl10 0 rfl) ?_
    refine lv_ifnonnull (tgt := 13) hx hb dX9_broken_8 (by decide) ?_
    refine lv_aload_n hx hb dX9_broken_13 rfl (lv_at hl10 1 rfl) ?_
    refine tr_getr Z.1 Z.2.2.2.1 S1.1 S1.2 ha0 ta0 rfl rfl (fun _ h => List.mem_cons_of_mem _ (List.mem_append_left _ (List.mem_append_left _ (List.mem_append_left _ (List.mem_append_left _ (List.mem_append_right _ h)))))) 3 (by decide) rfl (hts _ (List.mem_of_getElem? (i := 1) rfl)) dX9_broken_14 (fun q11 eq11 hq11 tq11 => ?_)
    have tq11 : τ q11 = (6, 0) := tq11
    refine lv_aload_n hx hb dX9_broken_17 rfl (lv_at hl10 0 rfl) ?_
    refine lv_aload_n hx hb dX9_broken_18 rfl (lv_at hl10 1 rfl) ?_
    refine tc_vq Z.1 Z.2.2.2.1 Z.2.2.2.2.1 Z.2.2.2.2.2 S1.1 S1.2 ha0 ta0 rfl rfl (k_X9_laidRows l D cy S1.2 ha0 ta0) (cwV 0 hts gX9_broken_X9_laidRows rfl rfl rfl (by decide +kernel) ⟨Nat.le_of_ble_eq_true rfl, Nat.le_of_ble_eq_true rfl⟩) rfl hl10.1 rfl (Nat.le_of_ble_eq_true rfl) dX9_broken_19 ⟨Nat.zero_le _, Nat.zero_le _⟩ (fun v15 E12 H13 k14 W12 I12 G12 p12 => ?_)
    have p12_0 := p12
    have S12 : Now D TB cy (va_A (va_pl L E) sz) s L τ E12 H13 k14 := ⟨W12, I12⟩
    have F12 : Fr L τ (inW [(0, 0), (6, 0), (5, 0), (100, 0), (101, 0), (102, 0), (103, 0), (104, 0), (105, 0), (106, 0), (107, 0), (108, 0), (109, 0), (110, 0), (111, 0), (112, 0)]) E E12 := F1.trans (G12.mono (inW_mono (by decide)))
    obtain ⟨q16, rfl, hq16, tq16⟩ := p12_0
    refine W.eq (g2 := F0 m 22 l9 [.ref q16, .ref q8, .ref q11]) rfl ?_
    refine tc_vv Z.1 Z.2.2.2.1 Z.2.2.2.2.1 Z.2.2.2.2.2 S12.1 S12.2 hq11 tq11 rfl rfl (k_X8_judge_v0 l D cy S12.2 hq11 tq11 hq8 tq8 hq16 tq16) (cwV 2 hts gX9_broken_X8_judge rfl rfl rfl (by decide +kernel) ⟨Nat.le_of_ble_eq_true rfl, Nat.le_of_ble_eq_true rfl⟩) rfl hl10.1 rfl (Nat.le_of_ble_eq_true rfl) dX9_broken_22 ⟨Nat.zero_le _, Nat.zero_le _⟩ (fun E17 H18 k19 W17 I17 G17 p17 => ?_)
    have S17 : Now D TB cy (va_A (va_pl L E) sz) s L τ E17 H18 k19 := ⟨W17, I17⟩
    have F17 : Fr L τ (inW [(0, 0), (6, 0), (5, 0), (100, 0), (101, 0), (102, 0), (103, 0), (104, 0), (105, 0), (106, 0), (107, 0), (108, 0), (109, 0), (110, 0), (111, 0), (112, 0)]) E E17 := F12.trans (G17.mono (inW_mono (by decide)))
    refine lv_iload_n hx hb dX9_broken_25 rfl (lv_at hl10 3 rfl) ?_
    rcases (show (a2.toInt < 0 ∨ 2 < a2.toInt) ∨ a2.toInt = 0 ∨ a2.toInt = 1 ∨ a2.toInt = 2 from by omega) with c21 | c21 | c21 | c21
    · skip
      refine lv_tableOut (tgt := 84) hx hb dX9_broken_26 c21 (by decide) ?_
      refine lv_aload_n hx hb dX9_broken_84 rfl (lv_at hl10 1 rfl) ?_
      refine tr_getr Z.1 Z.2.2.2.1 S17.1 S17.2 ha0 ta0 rfl rfl (fun _ h => List.mem_cons_of_mem _ (List.mem_append_left _ (List.mem_append_left _ (List.mem_append_left _ (List.mem_append_left _ (List.mem_append_right _ h)))))) 3 (by decide) rfl (hts _ (List.mem_of_getElem? (i := 1) rfl)) dX9_broken_85 (fun q22 eq22 hq22 tq22 => ?_)
      have tq22 : τ q22 = (6, 0) := tq22
      have uq22 : q11 = q22 := S17.2.2.2.2 _ hq11 _ hq22 (tq11.trans tq22.symm) (by rw [tq11]; rfl)
      subst uq22
      refine tr_geti Z.1 Z.2.2.2.1 S17.1 S17.2 hq11 tq11 rfl rfl (fun _ h => List.mem_cons_of_mem _ (List.mem_append_left _ (List.mem_append_left _ (List.mem_append_left _ (List.mem_append_right _ h))))) 3 (by decide) rfl (hts _ (List.mem_of_getElem? (i := 5) rfl)) dX9_broken_88 (fun v23 ev23 lv23 uv23 => ?_)
      rw [← hQ]
      exact en_i Z S17 F17 trivial dX9_broken_91
    · skip
      refine lv_tableIn (tgt := 52) (off := 26) hx hb dX9_broken_26 (by omega) (by omega) (by rw [show (a2.toInt - 0).toNat = 0 from by omega]; rfl) (by decide) ?_
      refine lv_aload_n hx hb dX9_broken_52 rfl (lv_at hl10 1 rfl) ?_
      refine tr_getr Z.1 Z.2.2.2.1 S17.1 S17.2 ha0 ta0 rfl rfl (fun _ h => List.mem_cons_of_mem _ (List.mem_append_left _ (List.mem_append_left _ (List.mem_append_left _ (List.mem_append_left _ (List.mem_append_right _ h)))))) 3 (by decide) rfl (hts _ (List.mem_of_getElem? (i := 1) rfl)) dX9_broken_53 (fun q24 eq24 hq24 tq24 => ?_)
      have tq24 : τ q24 = (6, 0) := tq24
      have uq24 : q11 = q24 := S17.2.2.2.2 _ hq11 _ hq24 (tq11.trans tq24.symm) (by rw [tq11]; rfl)
      subst uq24
      refine tr_geti Z.1 Z.2.2.2.1 S17.1 S17.2 hq11 tq11 rfl rfl (fun _ h => List.mem_cons_of_mem _ (List.mem_append_left _ (List.mem_append_left _ (List.mem_append_left _ (List.mem_append_right _ h))))) 0 (by decide) rfl (hts _ (List.mem_of_getElem? (i := 2) rfl)) dX9_broken_56 (fun v25 ev25 lv25 uv25 => ?_)
      refine lv_if_eq (tgt := 66) hx hb dX9_broken_59 (by decide) (fun c26 => ?_) (fun c26 => ?_)
      · skip
        have tc26 := nu_eq c26
        have uc26 : (0 : Int32).toInt = 0 := rfl
        obtain ⟨v27, ev27, tv27⟩ : ∃ v : Int32, Int32.ofInt (0) = v ∧ v.toInt = 0 := ⟨_, rfl, by decide +kernel⟩
        refine lv_iconst hx hb dX9_broken_66 ev27 ?_
        rw [← hQ]
        exact en_i Z S17 F17 trivial dX9_broken_67
      · skip
        have tc26 := nu_ne c26
        have uc26 : (0 : Int32).toInt = 0 := rfl
        obtain ⟨v28, ev28, tv28⟩ : ∃ v : Int32, Int32.ofInt (1) = v ∧ v.toInt = 1 := ⟨_, rfl, by decide +kernel⟩
        refine lv_iconst hx hb dX9_broken_62 ev28 ?_
        refine lv_goto (tgt := 67) hx hb dX9_broken_63 (by decide) ?_
        rw [← hQ]
        exact en_i Z S17 F17 trivial dX9_broken_67
    · skip
      refine lv_tableIn (tgt := 68) (off := 42) hx hb dX9_broken_26 (by omega) (by omega) (by rw [show (a2.toInt - 0).toNat = 1 from by omega]; rfl) (by decide) ?_
      refine lv_aload_n hx hb dX9_broken_68 rfl (lv_at hl10 1 rfl) ?_
      refine tr_getr Z.1 Z.2.2.2.1 S17.1 S17.2 ha0 ta0 rfl rfl (fun _ h => List.mem_cons_of_mem _ (List.mem_append_left _ (List.mem_append_left _ (List.mem_append_left _ (List.mem_append_left _ (List.mem_append_right _ h)))))) 3 (by decide) rfl (hts _ (List.mem_of_getElem? (i := 1) rfl)) dX9_broken_69 (fun q29 eq29 hq29 tq29 => ?_)
      have tq29 : τ q29 = (6, 0) := tq29
      have uq29 : q11 = q29 := S17.2.2.2.2 _ hq11 _ hq29 (tq11.trans tq29.symm) (by rw [tq11]; rfl)
      subst uq29
      refine tr_geti Z.1 Z.2.2.2.1 S17.1 S17.2 hq11 tq11 rfl rfl (fun _ h => List.mem_cons_of_mem _ (List.mem_append_left _ (List.mem_append_left _ (List.mem_append_left _ (List.mem_append_right _ h))))) 1 (by decide) rfl (hts _ (List.mem_of_getElem? (i := 3) rfl)) dX9_broken_72 (fun v30 ev30 lv30 uv30 => ?_)
      rw [← hQ]
      exact en_i Z S17 F17 trivial dX9_broken_75
    · skip
      refine lv_tableIn (tgt := 76) (off := 50) hx hb dX9_broken_26 (by omega) (by omega) (by rw [show (a2.toInt - 0).toNat = 2 from by omega]; rfl) (by decide) ?_
      refine lv_aload_n hx hb dX9_broken_76 rfl (lv_at hl10 1 rfl) ?_
      refine tr_getr Z.1 Z.2.2.2.1 S17.1 S17.2 ha0 ta0 rfl rfl (fun _ h => List.mem_cons_of_mem _ (List.mem_append_left _ (List.mem_append_left _ (List.mem_append_left _ (List.mem_append_left _ (List.mem_append_right _ h)))))) 3 (by decide) rfl (hts _ (List.mem_of_getElem? (i := 1) rfl)) dX9_broken_77 (fun q31 eq31 hq31 tq31 => ?_)
      have tq31 : τ q31 = (6, 0) := tq31
      have uq31 : q11 = q31 := S17.2.2.2.2 _ hq11 _ hq31 (tq11.trans tq31.symm) (by rw [tq11]; rfl)
      subst uq31
      refine tr_geti Z.1 Z.2.2.2.1 S17.1 S17.2 hq11 tq11 rfl rfl (fun _ h => List.mem_cons_of_mem _ (List.mem_append_left _ (List.mem_append_left _ (List.mem_append_left _ (List.mem_append_right _ h))))) 2 (by decide) rfl (hts _ (List.mem_of_getElem? (i := 4) rfl)) dX9_broken_80 (fun v32 ev32 lv32 uv32 => ?_)
      rw [← hQ]
      exact en_i Z S17 F17 trivial dX9_broken_83

set_option maxRecDepth 20000 in
theorem ggX9_about_X9_askedLaw : GoodIn wsX9_about wsX9_askedLaw := goodIn_r _ [9, 10, 11, 12, 13, 14, 15, 16, 17, 18, 19, 8, 20, 21, 28, 29, 30, 31, 32, 33, 34, 35, 36, 37, 38, 39, 40, 41, 42, 43, 44, 45, 46, 47, 48, 49, 50, 51, 52, 53, 54] (by decide +kernel) (by decide +kernel)
set_option maxRecDepth 20000 in
theorem gX9_about_X9_askedLaw : GoodIn wsX9_about (wsV RX9 195 RX9 yX9_askedLaw wsX9_askedLaw) := goodIn_app (goodIn_of _ (by decide +kernel)) ggX9_about_X9_askedLaw
theorem dX9_about_0 : decode cX9_about 0 = .ok (.aload_n 0, 1) := by decide +kernel
theorem dX9_about_1 : decode cX9_about 1 = .ok (.iload_n 1, 1) := by decide +kernel
theorem dX9_about_2 : decode cX9_about 2 = .ok (.iload_n 2, 1) := by decide +kernel
theorem dX9_about_3 : decode cX9_about 3 = .ok (.invokevirtual 195, 3) := by decide +kernel
theorem dX9_about_6 : decode cX9_about 6 = .ok (.astore_n 3, 1) := by decide +kernel
theorem dX9_about_7 : decode cX9_about 7 = .ok (.aload_n 3, 1) := by decide +kernel
theorem dX9_about_8 : decode cX9_about 8 = .ok (.ifnonnull 5, 3) := by decide +kernel
theorem dX9_about_11 : decode cX9_about 11 = .ok (.iconst (-1), 1) := by decide +kernel
theorem dX9_about_12 : decode cX9_about 12 = .ok (.ireturn, 1) := by decide +kernel
theorem dX9_about_13 : decode cX9_about 13 = .ok (.iload_n 2, 1) := by decide +kernel
theorem dX9_about_14 : decode cX9_about 14 = .ok (.tableswitch 51 0 2 #[26, 39, 45], 26) := by decide +kernel
theorem dX9_about_40 : decode cX9_about 40 = .ok (.aload_n 3, 1) := by decide +kernel
theorem dX9_about_41 : decode cX9_about 41 = .ok (.getfield 215, 3) := by decide +kernel
theorem dX9_about_44 : decode cX9_about 44 = .ok (.ifCond .eq 7, 3) := by decide +kernel
theorem dX9_about_47 : decode cX9_about 47 = .ok (.iconst 1, 1) := by decide +kernel
theorem dX9_about_48 : decode cX9_about 48 = .ok (.goto 4, 3) := by decide +kernel
theorem dX9_about_51 : decode cX9_about 51 = .ok (.iconst 0, 1) := by decide +kernel
theorem dX9_about_52 : decode cX9_about 52 = .ok (.ireturn, 1) := by decide +kernel
theorem dX9_about_53 : decode cX9_about 53 = .ok (.aload_n 3, 1) := by decide +kernel
theorem dX9_about_54 : decode cX9_about 54 = .ok (.getfield 220, 3) := by decide +kernel
theorem dX9_about_57 : decode cX9_about 57 = .ok (.arraylength, 1) := by decide +kernel
theorem dX9_about_58 : decode cX9_about 58 = .ok (.ireturn, 1) := by decide +kernel
theorem dX9_about_59 : decode cX9_about 59 = .ok (.aload_n 3, 1) := by decide +kernel
theorem dX9_about_60 : decode cX9_about 60 = .ok (.getfield 223, 3) := by decide +kernel
theorem dX9_about_63 : decode cX9_about 63 = .ok (.arraylength, 1) := by decide +kernel
theorem dX9_about_64 : decode cX9_about 64 = .ok (.ireturn, 1) := by decide +kernel
theorem dX9_about_65 : decode cX9_about 65 = .ok (.aload_n 3, 1) := by decide +kernel
theorem dX9_about_66 : decode cX9_about 66 = .ok (.getfield 226, 3) := by decide +kernel
theorem dX9_about_69 : decode cX9_about 69 = .ok (.ifCond .eq 7, 3) := by decide +kernel
theorem dX9_about_72 : decode cX9_about 72 = .ok (.iconst 1, 1) := by decide +kernel
theorem dX9_about_73 : decode cX9_about 73 = .ok (.goto 4, 3) := by decide +kernel
theorem dX9_about_76 : decode cX9_about 76 = .ok (.iconst 0, 1) := by decide +kernel
theorem dX9_about_77 : decode cX9_about 77 = .ok (.ireturn, 1) := by decide +kernel
set_option maxHeartbeats 4000000 in
set_option maxRecDepth 100000 in
theorem k_X9_about (l : Launch) (D : va_G) (cy : Nat → ClassId) {L : List Nat} {τ : Nat → Ro} {E : Ec} (hI : Inv TB cy L τ E) {a0 : Nat} (ha0 : a0 ∈ L) (ta0 : τ a0 = (0, 0)) (a1 : Int32) (a2 : Int32) : CtI l yX9_about wsX9_about { frames := 3, cells := 0, slots := 0, locals := 66 } D TB cy L τ E [.ref a0, .int a1, .int a2] (inW [(0, 0)]) (fun r E' => True) := by
  intro sz
  refine sta (cc := cX9_about) (maxL := 4) hI (by decide) rfl (Nat.le_of_ble_eq_true rfl) (fun p e s m args below meth c ls hsz Z S0 hl => ?_)
  have hx := Z.1.1
  have hb := Z.1.2.1
  have hts := Z.1.2.2.2.2
  have F0_ : Fr L τ (inW [(0, 0)]) E E := Fr.refl
  have hl : lv_has ls 4 [(0, .ref a0), (1, .int a1), (2, .int a2)] := hl
  generalize hQ : MQ below _ args s 0 0 _ = QQ
  refine lv_aload_n hx hb dX9_about_0 rfl (lv_at hl 0 rfl) ?_
  refine lv_iload_n hx hb dX9_about_1 rfl (lv_at hl 1 rfl) ?_
  refine lv_iload_n hx hb dX9_about_2 rfl (lv_at hl 2 rfl) ?_
  refine tc_vq Z.1 Z.2.2.2.1 Z.2.2.2.2.1 Z.2.2.2.2.2 S0.1 S0.2 ha0 ta0 rfl rfl (k_X9_askedLaw l D cy S0.2 ha0 ta0 a1 a2) (cwV 2 hts gX9_about_X9_askedLaw rfl rfl rfl (by decide +kernel) ⟨Nat.le_of_ble_eq_true rfl, Nat.le_of_ble_eq_true rfl⟩) rfl hl.1 rfl (Nat.le_of_ble_eq_true rfl) dX9_about_3 ⟨Nat.zero_le _, Nat.zero_le _⟩ (fun v4 E1 H2 k3 W1 I1 G1 p1 => ?_)
  have p1_0 := p1
  have S1 : Now D TB cy (va_A (va_pl L E) sz) s L τ E1 H2 k3 := ⟨W1, I1⟩
  have F1 : Fr L τ (inW [(0, 0)]) E E1 := F0_.trans (G1.mono (inW_mono (by decide)))
  cases v4 with
  | none =>
    refine W.eq (g2 := F0 m 6 ls [.null]) rfl ?_
    refine lv_astore_nN (lv' := [(3, .null), (0, .ref a0), (1, .int a1), (2, .int a2)]) hx hb dX9_about_6 rfl hl (by decide) rfl (fun l5 hl6 => ?_)
    refine lv_aload_nN hx hb dX9_about_7 rfl (lv_at hl6 0 rfl) ?_
    refine lv_ifnonnullN hx hb dX9_about_8 ?_
    obtain ⟨v7, ev7, tv7⟩ : ∃ v : Int32, Int32.ofInt (-1) = v ∧ v.toInt = -1 := ⟨_, rfl, by decide +kernel⟩
    refine lv_iconst hx hb dX9_about_11 ev7 ?_
    rw [← hQ]
    exact en_i Z S1 F1 trivial dX9_about_12
  | some q8 =>
    obtain ⟨hq8, gq8⟩ := p1_0 q8 rfl
    obtain ⟨nq8, tq8⟩ : ∃ n : Nat, τ q8 = (10, n) := ⟨(τ q8).2, by rw [← gq8]⟩
    refine W.eq (g2 := F0 m 6 ls [.ref q8]) rfl ?_
    refine lv_astore_n (lv' := [(3, .ref q8), (0, .ref a0), (1, .int a1), (2, .int a2)]) hx hb dX9_about_6 rfl hl (by decide) rfl (fun l9 hl10 => ?_)
    refine lv_aload_n hx hb dX9_about_7 rfl (lv_at hl10 0 rfl) ?_
    refine lv_ifnonnull (tgt := 13) hx hb dX9_about_8 (by decide) ?_
    refine lv_iload_n hx hb dX9_about_13 rfl (lv_at hl10 3 rfl) ?_
    rcases (show (a2.toInt < 0 ∨ 2 < a2.toInt) ∨ a2.toInt = 0 ∨ a2.toInt = 1 ∨ a2.toInt = 2 from by omega) with c11 | c11 | c11 | c11
    · skip
      refine lv_tableOut (tgt := 65) hx hb dX9_about_14 c11 (by decide) ?_
      refine lv_aload_n hx hb dX9_about_65 rfl (lv_at hl10 0 rfl) ?_
      refine tr_geti Z.1 Z.2.2.2.1 S1.1 S1.2 hq8 tq8 rfl rfl (fun _ h => List.mem_cons_of_mem _ (List.mem_append_left _ (List.mem_append_left _ (List.mem_append_right _ h)))) 1 (by decide) rfl (hts _ (List.mem_of_getElem? (i := 4) rfl)) dX9_about_66 (fun v12 ev12 lv12 uv12 => ?_)
      have lv12 : (((nq8) % 2 : Nat) : Int) ≤ v12.toInt := lv12
      have uv12 : v12.toInt ≤ (((nq8) % 2 : Nat) : Int) := uv12
      refine lv_if_eq (tgt := 76) hx hb dX9_about_69 (by decide) (fun c13 => ?_) (fun c13 => ?_)
      · skip
        have tc13 := nu_eq c13
        have uc13 : (0 : Int32).toInt = 0 := rfl
        obtain ⟨v14, ev14, tv14⟩ : ∃ v : Int32, Int32.ofInt (0) = v ∧ v.toInt = 0 := ⟨_, rfl, by decide +kernel⟩
        refine lv_iconst hx hb dX9_about_76 ev14 ?_
        rw [← hQ]
        exact en_i Z S1 F1 trivial dX9_about_77
      · skip
        have tc13 := nu_ne c13
        have uc13 : (0 : Int32).toInt = 0 := rfl
        obtain ⟨v15, ev15, tv15⟩ : ∃ v : Int32, Int32.ofInt (1) = v ∧ v.toInt = 1 := ⟨_, rfl, by decide +kernel⟩
        refine lv_iconst hx hb dX9_about_72 ev15 ?_
        refine lv_goto (tgt := 77) hx hb dX9_about_73 (by decide) ?_
        rw [← hQ]
        exact en_i Z S1 F1 trivial dX9_about_77
    · skip
      refine lv_tableIn (tgt := 40) (off := 26) hx hb dX9_about_14 (by omega) (by omega) (by rw [show (a2.toInt - 0).toNat = 0 from by omega]; rfl) (by decide) ?_
      refine lv_aload_n hx hb dX9_about_40 rfl (lv_at hl10 0 rfl) ?_
      refine tr_geti Z.1 Z.2.2.2.1 S1.1 S1.2 hq8 tq8 rfl rfl (fun _ h => List.mem_cons_of_mem _ (List.mem_append_left _ (List.mem_append_left _ (List.mem_append_right _ h)))) 0 (by decide) rfl (hts _ (List.mem_of_getElem? (i := 1) rfl)) dX9_about_41 (fun v16 ev16 lv16 uv16 => ?_)
      refine lv_if_eq (tgt := 51) hx hb dX9_about_44 (by decide) (fun c17 => ?_) (fun c17 => ?_)
      · skip
        have tc17 := nu_eq c17
        have uc17 : (0 : Int32).toInt = 0 := rfl
        obtain ⟨v18, ev18, tv18⟩ : ∃ v : Int32, Int32.ofInt (0) = v ∧ v.toInt = 0 := ⟨_, rfl, by decide +kernel⟩
        refine lv_iconst hx hb dX9_about_51 ev18 ?_
        rw [← hQ]
        exact en_i Z S1 F1 trivial dX9_about_52
      · skip
        have tc17 := nu_ne c17
        have uc17 : (0 : Int32).toInt = 0 := rfl
        obtain ⟨v19, ev19, tv19⟩ : ∃ v : Int32, Int32.ofInt (1) = v ∧ v.toInt = 1 := ⟨_, rfl, by decide +kernel⟩
        refine lv_iconst hx hb dX9_about_47 ev19 ?_
        refine lv_goto (tgt := 52) hx hb dX9_about_48 (by decide) ?_
        rw [← hQ]
        exact en_i Z S1 F1 trivial dX9_about_52
    · skip
      refine lv_tableIn (tgt := 53) (off := 39) hx hb dX9_about_14 (by omega) (by omega) (by rw [show (a2.toInt - 0).toNat = 1 from by omega]; rfl) (by decide) ?_
      refine lv_aload_n hx hb dX9_about_53 rfl (lv_at hl10 0 rfl) ?_
      refine tr_getr Z.1 Z.2.2.2.1 S1.1 S1.2 hq8 tq8 rfl rfl (fun _ h => List.mem_cons_of_mem _ (List.mem_append_left _ (List.mem_append_left _ (List.mem_append_right _ h)))) 2 (by decide) rfl (hts _ (List.mem_of_getElem? (i := 2) rfl)) dX9_about_54 (fun q20 eq20 hq20 tq20 => ?_)
      have tq20 : τ q20 = (120, nq8) := tq20
      refine tr_alen Z.1 Z.2.2.2.1 S1.1 S1.2 hq20 tq20 rfl (by show (_ : Nat) < _; omega) dX9_about_57 (fun v21 tv21 => ?_)
      have tv21 : v21.toInt = (((nq8) / 2 % 8 : Nat) : Int) := tv21
      rw [← hQ]
      exact en_i Z S1 F1 trivial dX9_about_58
    · skip
      refine lv_tableIn (tgt := 59) (off := 45) hx hb dX9_about_14 (by omega) (by omega) (by rw [show (a2.toInt - 0).toNat = 2 from by omega]; rfl) (by decide) ?_
      refine lv_aload_n hx hb dX9_about_59 rfl (lv_at hl10 0 rfl) ?_
      refine tr_getr Z.1 Z.2.2.2.1 S1.1 S1.2 hq8 tq8 rfl rfl (fun _ h => List.mem_cons_of_mem _ (List.mem_append_left _ (List.mem_append_left _ (List.mem_append_right _ h)))) 3 (by decide) rfl (hts _ (List.mem_of_getElem? (i := 3) rfl)) dX9_about_60 (fun q22 eq22 hq22 tq22 => ?_)
      have tq22 : τ q22 = (121, nq8) := tq22
      refine tr_alenw Z.1 Z.2.2.2.1 S1.1 S1.2 hq22 tq22 rfl dX9_about_63 (fun v23 => ?_)
      rw [← hQ]
      exact en_i Z S1 F1 trivial dX9_about_64

set_option maxRecDepth 20000 in
theorem ggX9_best_X9_refuse : GoodIn wsX9_best wsX9_refuse := goodIn_r _ [10, 1, 183, 184, 185, 186, 187, 188, 189, 190, 191, 192, 193] (by decide +kernel) (by decide +kernel)
set_option maxRecDepth 20000 in
theorem gX9_best_X9_refuse : GoodIn wsX9_best (wsV RX9 153 RX9 yX9_refuse wsX9_refuse) := goodIn_app (goodIn_of _ (by decide +kernel)) ggX9_best_X9_refuse
set_option maxRecDepth 20000 in
theorem ggX9_best_X7_seek : GoodIn wsX9_best wsX7_seek := goodIn_r _ [15, 16, 17, 18, 19, 20, 21, 22, 23, 24, 25, 26, 27, 28, 29, 30, 31, 32, 33, 34, 35, 36, 37, 38, 39, 40, 41, 42, 43, 44, 45, 46, 47, 48, 49, 50, 51, 52, 53, 14, 54, 55, 56, 57, 58, 59, 60, 61, 62, 63, 64, 65, 66, 67, 68, 69, 70, 71, 72, 73, 74, 75, 76, 77, 78, 79, 80, 81, 82, 83, 84, 85, 86, 87, 88, 89, 90, 9, 91, 92, 93, 94, 95, 96, 97, 98, 99, 100, 101, 102, 103, 104, 105, 106, 107, 108, 109, 110, 111, 112, 113, 114, 115, 116, 117, 118, 119, 120, 121, 122, 123, 124, 125, 126, 127, 128, 129, 130, 131, 132, 133, 134, 135, 136, 137, 138, 139, 140, 141, 142, 143, 144, 145, 146, 147, 148, 149, 150, 151, 152, 153, 154, 155, 156, 157, 158, 159, 160, 161, 162, 163, 164, 165, 166, 167, 168, 169, 170, 171, 172, 173, 174, 175, 176, 177, 178, 179, 180, 181, 182, 194, 195, 196, 197, 198, 199, 200, 201, 202, 203, 204, 205, 206, 207, 208, 209, 210, 211, 212, 213, 214, 215, 216, 217, 218, 219, 220, 221, 222, 223, 224, 225, 226, 227, 228, 229, 230, 231, 232, 233, 234, 235] (by decide +kernel) (by decide +kernel)
set_option maxRecDepth 20000 in
theorem gX9_best_X7_seek : GoodIn wsX9_best (wsV RX9 232 RX7 yX7_seek wsX7_seek) := goodIn_app (goodIn_of _ (by decide +kernel)) ggX9_best_X7_seek
theorem dX9_best_0 : decode cX9_best 0 = .ok (.iload_n 1, 1) := by decide +kernel
theorem dX9_best_1 : decode cX9_best 1 = .ok (.iconst 2, 1) := by decide +kernel
theorem dX9_best_2 : decode cX9_best 2 = .ok (.if_icmp .lt 14, 3) := by decide +kernel
theorem dX9_best_5 : decode cX9_best 5 = .ok (.iload_n 2, 1) := by decide +kernel
theorem dX9_best_6 : decode cX9_best 6 = .ok (.iload_n 1, 1) := by decide +kernel
theorem dX9_best_7 : decode cX9_best 7 = .ok (.if_icmp .lt 9, 3) := by decide +kernel
theorem dX9_best_10 : decode cX9_best 10 = .ok (.iload_n 2, 1) := by decide +kernel
theorem dX9_best_11 : decode cX9_best 11 = .ok (.bipush 67, 2) := by decide +kernel
theorem dX9_best_13 : decode cX9_best 13 = .ok (.if_icmp .le 9, 3) := by decide +kernel
theorem dX9_best_16 : decode cX9_best 16 = .ok (.aload_n 0, 1) := by decide +kernel
theorem dX9_best_17 : decode cX9_best 17 = .ok (.iconst 1, 1) := by decide +kernel
theorem dX9_best_18 : decode cX9_best 18 = .ok (.invokevirtual 153, 3) := by decide +kernel
theorem dX9_best_21 : decode cX9_best 21 = .ok (.ireturn, 1) := by decide +kernel
theorem dX9_best_22 : decode cX9_best 22 = .ok (.aload_n 0, 1) := by decide +kernel
theorem dX9_best_23 : decode cX9_best 23 = .ok (.iconst 0, 1) := by decide +kernel
theorem dX9_best_24 : decode cX9_best 24 = .ok (.putfield 66, 3) := by decide +kernel
theorem dX9_best_27 : decode cX9_best 27 = .ok (.aload_n 0, 1) := by decide +kernel
theorem dX9_best_28 : decode cX9_best 28 = .ok (.getfield 47, 3) := by decide +kernel
theorem dX9_best_31 : decode cX9_best 31 = .ok (.aload_n 0, 1) := by decide +kernel
theorem dX9_best_32 : decode cX9_best 32 = .ok (.getfield 10, 3) := by decide +kernel
theorem dX9_best_35 : decode cX9_best 35 = .ok (.iload_n 1, 1) := by decide +kernel
theorem dX9_best_36 : decode cX9_best 36 = .ok (.iload_n 2, 1) := by decide +kernel
theorem dX9_best_37 : decode cX9_best 37 = .ok (.invokevirtual 232, 3) := by decide +kernel
theorem dX9_best_40 : decode cX9_best 40 = .ok (.aload_n 0, 1) := by decide +kernel
theorem dX9_best_41 : decode cX9_best 41 = .ok (.getfield 47, 3) := by decide +kernel
theorem dX9_best_44 : decode cX9_best 44 = .ok (.getfield 236, 3) := by decide +kernel
theorem dX9_best_47 : decode cX9_best 47 = .ok (.ifCond .le 13, 3) := by decide +kernel
theorem dX9_best_50 : decode cX9_best 50 = .ok (.aload_n 0, 1) := by decide +kernel
theorem dX9_best_51 : decode cX9_best 51 = .ok (.getfield 47, 3) := by decide +kernel
theorem dX9_best_54 : decode cX9_best 54 = .ok (.getfield 237, 3) := by decide +kernel
theorem dX9_best_57 : decode cX9_best 57 = .ok (.goto 5, 3) := by decide +kernel
theorem dX9_best_60 : decode cX9_best 60 = .ok (.bipush (-2), 2) := by decide +kernel
theorem dX9_best_62 : decode cX9_best 62 = .ok (.ireturn, 1) := by decide +kernel
set_option maxHeartbeats 4000000 in
set_option maxRecDepth 100000 in
theorem k_X9_best (l : Launch) (D : va_G) (cy : Nat → ClassId) {L : List Nat} {τ : Nat → Ro} {E : Ec} (hI : Inv TB cy L τ E) {a0 : Nat} (ha0 : a0 ∈ L) (ta0 : τ a0 = (0, 0)) (a1 : Int32) (a2 : Int32) : CtI l yX9_best wsX9_best { frames := 7, cells := 0, slots := 0, locals := 174 } D TB cy L τ E [.ref a0, .int a1, .int a2] (inW [(0, 0), (8, 0), (37, 0), (38, 0), (6, 1), (1, 2), (20, 2), (21, 2), (22, 2), (23, 2), (24, 2), (25, 2), (26, 2), (27, 2), (5, 1), (100, 1), (101, 1), (102, 1), (103, 1), (104, 1), (105, 1), (106, 1), (107, 1), (108, 1), (109, 1), (110, 1), (111, 1), (112, 1)]) (fun r E' => True) := by
  intro sz
  refine sta (cc := cX9_best) (maxL := 3) hI (by decide) rfl (Nat.le_of_ble_eq_true rfl) (fun p e s m args below meth c ls hsz Z S0 hl => ?_)
  have hx := Z.1.1
  have hb := Z.1.2.1
  have hts := Z.1.2.2.2.2
  have F0_ : Fr L τ (inW [(0, 0), (8, 0), (37, 0), (38, 0), (6, 1), (1, 2), (20, 2), (21, 2), (22, 2), (23, 2), (24, 2), (25, 2), (26, 2), (27, 2), (5, 1), (100, 1), (101, 1), (102, 1), (103, 1), (104, 1), (105, 1), (106, 1), (107, 1), (108, 1), (109, 1), (110, 1), (111, 1), (112, 1)]) E E := Fr.refl
  have hl : lv_has ls 3 [(0, .ref a0), (1, .int a1), (2, .int a2)] := hl
  generalize hQ : MQ below _ args s 0 0 _ = QQ
  have J16 : ∀  (E_16 : Ec) (H_16 : Heap) (k_16 : List Loc) (l_16 : Array Slot), Now D TB cy (va_A (va_pl L E) sz) s L τ E_16 H_16 k_16 → Fr L τ (inW [(0, 0), (8, 0), (37, 0), (38, 0), (6, 1), (1, 2), (20, 2), (21, 2), (22, 2), (23, 2), (24, 2), (25, 2), (26, 2), (27, 2), (5, 1), (100, 1), (101, 1), (102, 1), (103, 1), (104, 1), (105, 1), (106, 1), (107, 1), (108, 1), (109, 1), (110, 1), (111, 1), (112, 1)]) E E_16 → lv_has l_16 3 [(0, .ref a0)] → W p l e { frames := 7, cells := 0, slots := 0, locals := 174 } s m args below meth c H_16 k_16 0 0 QQ (F0 m 16 l_16 []) := by
    intro  E_16 H_16 k_16 l_16 S_16 F_16  hl_16
    refine lv_aload_n hx hb dX9_best_16 rfl (lv_at hl_16 0 rfl) ?_
    obtain ⟨v1, ev1, tv1⟩ : ∃ v : Int32, Int32.ofInt (1) = v ∧ v.toInt = 1 := ⟨_, rfl, by decide +kernel⟩
    refine lv_iconst hx hb dX9_best_17 ev1 ?_
    refine tc_vi Z.1 Z.2.2.2.1 Z.2.2.2.2.1 Z.2.2.2.2.2 S_16.1 S_16.2 ha0 ta0 rfl rfl (k_X9_refuse l D cy S_16.2 ha0 ta0 v1) (cwV 1 hts gX9_best_X9_refuse rfl rfl rfl (by decide +kernel) ⟨Nat.le_of_ble_eq_true rfl, Nat.le_of_ble_eq_true rfl⟩) rfl hl_16.1 rfl (Nat.le_of_ble_eq_true rfl) dX9_best_18 ⟨Nat.zero_le _, Nat.zero_le _⟩ (fun v5 E2 H3 k4 W2 I2 G2 p2 => ?_)
    obtain ⟨p2_0, p2_1⟩ := p2
    have S2 : Now D TB cy (va_A (va_pl L E) sz) s L τ E2 H3 k4 := ⟨W2, I2⟩
    have F2 : Fr L τ (inW [(0, 0), (8, 0), (37, 0), (38, 0), (6, 1), (1, 2), (20, 2), (21, 2), (22, 2), (23, 2), (24, 2), (25, 2), (26, 2), (27, 2), (5, 1), (100, 1), (101, 1), (102, 1), (103, 1), (104, 1), (105, 1), (106, 1), (107, 1), (108, 1), (109, 1), (110, 1), (111, 1), (112, 1)]) E E2 := F_16.trans (G2.mono (inW_mono (by decide)))
    rw [← hQ]
    exact en_i Z S2 F2 trivial dX9_best_21
  refine lv_iload_n hx hb dX9_best_0 rfl (lv_at hl 1 rfl) ?_
  obtain ⟨v6, ev6, tv6⟩ : ∃ v : Int32, Int32.ofInt (2) = v ∧ v.toInt = 2 := ⟨_, rfl, by decide +kernel⟩
  refine lv_iconst hx hb dX9_best_1 ev6 ?_
  refine lv_icmp_lt (tgt := 16) hx hb dX9_best_2 (by decide) (fun c7 => ?_) (fun c7 => ?_)
  · skip
    have tc7 := nu_lt c7
    exact J16 E s.heap [] ls S0 F0_ (lv_sub hl [0] rfl)
  · skip
    have tc7 := nu_nlt c7
    refine lv_iload_n hx hb dX9_best_5 rfl (lv_at hl 2 rfl) ?_
    refine lv_iload_n hx hb dX9_best_6 rfl (lv_at hl 1 rfl) ?_
    refine lv_icmp_lt (tgt := 16) hx hb dX9_best_7 (by decide) (fun c8 => ?_) (fun c8 => ?_)
    · skip
      have tc8 := nu_lt c8
      exact J16 E s.heap [] ls S0 F0_ (lv_sub hl [0] rfl)
    · skip
      have tc8 := nu_nlt c8
      refine lv_iload_n hx hb dX9_best_10 rfl (lv_at hl 2 rfl) ?_
      obtain ⟨v9, ev9, tv9⟩ : ∃ v : Int32, (Int8.ofInt (67)).toInt32 = v ∧ v.toInt = 67 := ⟨_, rfl, by decide +kernel⟩
      refine lv_bipush hx hb dX9_best_11 ev9 ?_
      refine lv_icmp_le (tgt := 22) hx hb dX9_best_13 (by decide) (fun c10 => ?_) (fun c10 => ?_)
      · skip
        have tc10 := nu_le c10
        refine lv_aload_n hx hb dX9_best_22 rfl (lv_at hl 0 rfl) ?_
        obtain ⟨v11, ev11, tv11⟩ : ∃ v : Int32, Int32.ofInt (0) = v ∧ v.toInt = 0 := ⟨_, rfl, by decide +kernel⟩
        refine lv_iconst hx hb dX9_best_23 ev11 ?_
        refine tr_puti Z.1 Z.2.2.2.1 S0.1 S0.2 ha0 ta0 rfl rfl (fun _ h => List.mem_cons_of_mem _ (List.mem_append_left _ (List.mem_append_left _ (List.mem_append_left _ (List.mem_append_left _ (List.mem_append_left _ (List.mem_append_right _ h))))))) tyX9_ok nmX9 9 (by decide) rfl rfl rfl (hts _ (List.mem_of_getElem? (i := 1) rfl)) dX9_best_24 (by have := fb_rng v11; omega) (by have := fb_rng v11; omega) (fun E12 H13 k14 W12 I12 P12 => ?_)
        have S12 : Now D TB cy (va_A (va_pl L E) sz) s L τ E12 H13 k14 := ⟨W12, I12⟩
        have F12 : Fr L τ (inW [(0, 0), (8, 0), (37, 0), (38, 0), (6, 1), (1, 2), (20, 2), (21, 2), (22, 2), (23, 2), (24, 2), (25, 2), (26, 2), (27, 2), (5, 1), (100, 1), (101, 1), (102, 1), (103, 1), (104, 1), (105, 1), (106, 1), (107, 1), (108, 1), (109, 1), (110, 1), (111, 1), (112, 1)]) E E12 := Fr.put F0_ P12 ta0 rfl
        refine lv_aload_n hx hb dX9_best_27 rfl (lv_at hl 0 rfl) ?_
        refine tr_getr Z.1 Z.2.2.2.1 S12.1 S12.2 ha0 ta0 rfl rfl (fun _ h => List.mem_cons_of_mem _ (List.mem_append_left _ (List.mem_append_left _ (List.mem_append_left _ (List.mem_append_left _ (List.mem_append_left _ (List.mem_append_right _ h))))))) 5 (by decide) rfl (hts _ (List.mem_of_getElem? (i := 2) rfl)) dX9_best_28 (fun q15 eq15 hq15 tq15 => ?_)
        have tq15 : τ q15 = (8, 0) := tq15
        refine lv_aload_n hx hb dX9_best_31 rfl (lv_at hl 0 rfl) ?_
        refine tr_getr Z.1 Z.2.2.2.1 S12.1 S12.2 ha0 ta0 rfl rfl (fun _ h => List.mem_cons_of_mem _ (List.mem_append_left _ (List.mem_append_left _ (List.mem_append_left _ (List.mem_append_left _ (List.mem_append_left _ (List.mem_append_right _ h))))))) 0 (by decide) rfl (hts _ (List.mem_of_getElem? (i := 3) rfl)) dX9_best_32 (fun q16 eq16 hq16 tq16 => ?_)
        have tq16 : τ q16 = (1, 0) := tq16
        refine lv_iload_n hx hb dX9_best_35 rfl (lv_at hl 1 rfl) ?_
        refine lv_iload_n hx hb dX9_best_36 rfl (lv_at hl 2 rfl) ?_
        refine tc_vv Z.1 Z.2.2.2.1 Z.2.2.2.2.1 Z.2.2.2.2.2 S12.1 S12.2 hq15 tq15 rfl rfl (k_X7_seek l D cy S12.2 hq15 tq15 hq16 tq16 a1 (by omega) (by omega) a2 (by omega) (by omega)) (cwV 3 hts gX9_best_X7_seek rfl rfl rfl (by decide +kernel) ⟨Nat.le_of_ble_eq_true rfl, Nat.le_of_ble_eq_true rfl⟩) rfl hl.1 rfl (Nat.le_of_ble_eq_true rfl) dX9_best_37 ⟨Nat.zero_le _, Nat.zero_le _⟩ (fun E17 H18 k19 W17 I17 G17 p17 => ?_)
        have S17 : Now D TB cy (va_A (va_pl L E) sz) s L τ E17 H18 k19 := ⟨W17, I17⟩
        have F17 : Fr L τ (inW [(0, 0), (8, 0), (37, 0), (38, 0), (6, 1), (1, 2), (20, 2), (21, 2), (22, 2), (23, 2), (24, 2), (25, 2), (26, 2), (27, 2), (5, 1), (100, 1), (101, 1), (102, 1), (103, 1), (104, 1), (105, 1), (106, 1), (107, 1), (108, 1), (109, 1), (110, 1), (111, 1), (112, 1)]) E E17 := F12.trans (G17.mono (inW_mono (by decide)))
        refine lv_aload_n hx hb dX9_best_40 rfl (lv_at hl 0 rfl) ?_
        refine tr_getr Z.1 Z.2.2.2.1 S17.1 S17.2 ha0 ta0 rfl rfl (fun _ h => List.mem_cons_of_mem _ (List.mem_append_left _ (List.mem_append_left _ (List.mem_append_left _ (List.mem_append_left _ (List.mem_append_left _ (List.mem_append_right _ h))))))) 5 (by decide) rfl (hts _ (List.mem_of_getElem? (i := 2) rfl)) dX9_best_41 (fun q21 eq21 hq21 tq21 => ?_)
        have tq21 : τ q21 = (8, 0) := tq21
        have uq21 : q15 = q21 := S17.2.2.2.2 _ hq15 _ hq21 (tq15.trans tq21.symm) (by rw [tq15]; rfl)
        subst uq21
        refine tr_geti Z.1 Z.2.2.2.1 S17.1 S17.2 hq15 tq15 rfl rfl (fun _ h => List.mem_cons_of_mem _ (List.mem_append_left _ (List.mem_append_left _ (List.mem_append_left _ (List.mem_append_left _ (List.mem_append_right _ h)))))) 8 (by decide) rfl (hts _ (List.mem_of_getElem? (i := 4) rfl)) dX9_best_44 (fun v22 ev22 lv22 uv22 => ?_)
        refine lv_if_le (tgt := 60) hx hb dX9_best_47 (by decide) (fun c23 => ?_) (fun c23 => ?_)
        · skip
          have tc23 := nu_le c23
          have uc23 : (0 : Int32).toInt = 0 := rfl
          obtain ⟨v24, ev24, tv24⟩ : ∃ v : Int32, (Int8.ofInt (-2)).toInt32 = v ∧ v.toInt = -2 := ⟨_, rfl, by decide +kernel⟩
          refine lv_bipush hx hb dX9_best_60 ev24 ?_
          rw [← hQ]
          exact en_i Z S17 F17 trivial dX9_best_62
        · skip
          have tc23 := nu_nle c23
          have uc23 : (0 : Int32).toInt = 0 := rfl
          refine lv_aload_n hx hb dX9_best_50 rfl (lv_at hl 0 rfl) ?_
          refine tr_getr Z.1 Z.2.2.2.1 S17.1 S17.2 ha0 ta0 rfl rfl (fun _ h => List.mem_cons_of_mem _ (List.mem_append_left _ (List.mem_append_left _ (List.mem_append_left _ (List.mem_append_left _ (List.mem_append_left _ (List.mem_append_right _ h))))))) 5 (by decide) rfl (hts _ (List.mem_of_getElem? (i := 2) rfl)) dX9_best_51 (fun q25 eq25 hq25 tq25 => ?_)
          have tq25 : τ q25 = (8, 0) := tq25
          have uq25 : q15 = q25 := S17.2.2.2.2 _ hq15 _ hq25 (tq15.trans tq25.symm) (by rw [tq15]; rfl)
          subst uq25
          refine tr_geti Z.1 Z.2.2.2.1 S17.1 S17.2 hq15 tq15 rfl rfl (fun _ h => List.mem_cons_of_mem _ (List.mem_append_left _ (List.mem_append_left _ (List.mem_append_left _ (List.mem_append_left _ (List.mem_append_right _ h)))))) 10 (by decide) rfl (hts _ (List.mem_of_getElem? (i := 5) rfl)) dX9_best_54 (fun v26 ev26 lv26 uv26 => ?_)
          refine lv_goto (tgt := 62) hx hb dX9_best_57 (by decide) ?_
          rw [← hQ]
          exact en_i Z S17 F17 trivial dX9_best_62
      · skip
        have tc10 := nu_nle c10
        exact J16 E s.heap [] ls S0 F0_ (lv_sub hl [0] rfl)

set_option maxRecDepth 20000 in
theorem ggX9_bestOf_X7_toldTreads : GoodIn wsX9_bestOf wsX7_toldTreads := goodIn_r _ [10, 11, 12, 13, 25, 26, 27, 28, 29, 30, 31, 32, 33, 34, 35] (by decide +kernel) (by decide +kernel)
set_option maxRecDepth 20000 in
theorem gX9_bestOf_X7_toldTreads : GoodIn wsX9_bestOf (wsV RX9 248 RX7 yX7_toldTreads wsX7_toldTreads) := goodIn_app (goodIn_of _ (by decide +kernel)) ggX9_bestOf_X7_toldTreads
theorem dX9_bestOf_0 : decode cX9_bestOf 0 = .ok (.aload_n 0, 1) := by decide +kernel
theorem dX9_bestOf_1 : decode cX9_bestOf 1 = .ok (.getfield 47, 3) := by decide +kernel
theorem dX9_bestOf_4 : decode cX9_bestOf 4 = .ok (.getfield 239, 3) := by decide +kernel
theorem dX9_bestOf_7 : decode cX9_bestOf 7 = .ok (.ifCond .ne 5, 3) := by decide +kernel
theorem dX9_bestOf_10 : decode cX9_bestOf 10 = .ok (.iconst (-1), 1) := by decide +kernel
theorem dX9_bestOf_11 : decode cX9_bestOf 11 = .ok (.ireturn, 1) := by decide +kernel
theorem dX9_bestOf_12 : decode cX9_bestOf 12 = .ok (.iload_n 1, 1) := by decide +kernel
theorem dX9_bestOf_13 : decode cX9_bestOf 13 = .ok (.tableswitch 104 0 5 #[39, 47, 69, 78, 87, 96], 39) := by decide +kernel
theorem dX9_bestOf_52 : decode cX9_bestOf 52 = .ok (.aload_n 0, 1) := by decide +kernel
theorem dX9_bestOf_53 : decode cX9_bestOf 53 = .ok (.getfield 47, 3) := by decide +kernel
theorem dX9_bestOf_56 : decode cX9_bestOf 56 = .ok (.getfield 242, 3) := by decide +kernel
theorem dX9_bestOf_59 : decode cX9_bestOf 59 = .ok (.ireturn, 1) := by decide +kernel
theorem dX9_bestOf_60 : decode cX9_bestOf 60 = .ok (.aload_n 0, 1) := by decide +kernel
theorem dX9_bestOf_61 : decode cX9_bestOf 61 = .ok (.getfield 47, 3) := by decide +kernel
theorem dX9_bestOf_64 : decode cX9_bestOf 64 = .ok (.getfield 236, 3) := by decide +kernel
theorem dX9_bestOf_67 : decode cX9_bestOf 67 = .ok (.ifCond .le 13, 3) := by decide +kernel
theorem dX9_bestOf_70 : decode cX9_bestOf 70 = .ok (.aload_n 0, 1) := by decide +kernel
theorem dX9_bestOf_71 : decode cX9_bestOf 71 = .ok (.getfield 47, 3) := by decide +kernel
theorem dX9_bestOf_74 : decode cX9_bestOf 74 = .ok (.getfield 245, 3) := by decide +kernel
theorem dX9_bestOf_77 : decode cX9_bestOf 77 = .ok (.goto 4, 3) := by decide +kernel
theorem dX9_bestOf_80 : decode cX9_bestOf 80 = .ok (.iconst (-1), 1) := by decide +kernel
theorem dX9_bestOf_81 : decode cX9_bestOf 81 = .ok (.ireturn, 1) := by decide +kernel
theorem dX9_bestOf_82 : decode cX9_bestOf 82 = .ok (.aload_n 0, 1) := by decide +kernel
theorem dX9_bestOf_83 : decode cX9_bestOf 83 = .ok (.getfield 47, 3) := by decide +kernel
theorem dX9_bestOf_86 : decode cX9_bestOf 86 = .ok (.iconst 0, 1) := by decide +kernel
theorem dX9_bestOf_87 : decode cX9_bestOf 87 = .ok (.invokevirtual 248, 3) := by decide +kernel
theorem dX9_bestOf_90 : decode cX9_bestOf 90 = .ok (.ireturn, 1) := by decide +kernel
theorem dX9_bestOf_91 : decode cX9_bestOf 91 = .ok (.aload_n 0, 1) := by decide +kernel
theorem dX9_bestOf_92 : decode cX9_bestOf 92 = .ok (.getfield 47, 3) := by decide +kernel
theorem dX9_bestOf_95 : decode cX9_bestOf 95 = .ok (.iconst 1, 1) := by decide +kernel
theorem dX9_bestOf_96 : decode cX9_bestOf 96 = .ok (.invokevirtual 248, 3) := by decide +kernel
theorem dX9_bestOf_99 : decode cX9_bestOf 99 = .ok (.ireturn, 1) := by decide +kernel
theorem dX9_bestOf_100 : decode cX9_bestOf 100 = .ok (.aload_n 0, 1) := by decide +kernel
theorem dX9_bestOf_101 : decode cX9_bestOf 101 = .ok (.getfield 47, 3) := by decide +kernel
theorem dX9_bestOf_104 : decode cX9_bestOf 104 = .ok (.iconst 2, 1) := by decide +kernel
theorem dX9_bestOf_105 : decode cX9_bestOf 105 = .ok (.invokevirtual 248, 3) := by decide +kernel
theorem dX9_bestOf_108 : decode cX9_bestOf 108 = .ok (.ireturn, 1) := by decide +kernel
theorem dX9_bestOf_109 : decode cX9_bestOf 109 = .ok (.aload_n 0, 1) := by decide +kernel
theorem dX9_bestOf_110 : decode cX9_bestOf 110 = .ok (.getfield 47, 3) := by decide +kernel
theorem dX9_bestOf_113 : decode cX9_bestOf 113 = .ok (.getfield 236, 3) := by decide +kernel
theorem dX9_bestOf_116 : decode cX9_bestOf 116 = .ok (.ireturn, 1) := by decide +kernel
theorem dX9_bestOf_117 : decode cX9_bestOf 117 = .ok (.iconst (-1), 1) := by decide +kernel
theorem dX9_bestOf_118 : decode cX9_bestOf 118 = .ok (.ireturn, 1) := by decide +kernel
set_option maxHeartbeats 4000000 in
set_option maxRecDepth 100000 in
theorem k_X9_bestOf (l : Launch) (D : va_G) (cy : Nat → ClassId) {L : List Nat} {τ : Nat → Ro} {E : Ec} (hI : Inv TB cy L τ E) {a0 : Nat} (ha0 : a0 ∈ L) (ta0 : τ a0 = (0, 0)) (a1 : Int32) : CtI l yX9_bestOf wsX9_bestOf { frames := 1, cells := 0, slots := 0, locals := 21 } D TB cy L τ E [.ref a0, .int a1] (inW []) (fun r E' => E' = E) := by
  intro sz
  refine sta (cc := cX9_bestOf) (maxL := 2) hI (by decide) rfl (Nat.le_of_ble_eq_true rfl) (fun p e s m args below meth c ls hsz Z S0 hl => ?_)
  have hx := Z.1.1
  have hb := Z.1.2.1
  have hts := Z.1.2.2.2.2
  have F0_ : Fr L τ (inW []) E E := Fr.refl
  have hl : lv_has ls 2 [(0, .ref a0), (1, .int a1)] := hl
  generalize hQ : MQ below _ args s 0 0 _ = QQ
  refine lv_aload_n hx hb dX9_bestOf_0 rfl (lv_at hl 0 rfl) ?_
  refine tr_getr Z.1 Z.2.2.2.1 S0.1 S0.2 ha0 ta0 rfl rfl (fun _ h => List.mem_cons_of_mem _ (List.mem_append_left _ (List.mem_append_right _ h))) 5 (by decide) rfl (hts _ (List.mem_of_getElem? (i := 1) rfl)) dX9_bestOf_1 (fun q1 eq1 hq1 tq1 => ?_)
  have tq1 : τ q1 = (8, 0) := tq1
  refine tr_geti Z.1 Z.2.2.2.1 S0.1 S0.2 hq1 tq1 rfl rfl (fun _ h => List.mem_cons_of_mem _ (List.mem_append_right _ h)) 5 (by decide) rfl (hts _ (List.mem_of_getElem? (i := 2) rfl)) dX9_bestOf_4 (fun v2 ev2 lv2 uv2 => ?_)
  refine lv_if_ne (tgt := 12) hx hb dX9_bestOf_7 (by decide) (fun c3 => ?_) (fun c3 => ?_)
  · skip
    have tc3 := nu_ne c3
    have uc3 : (0 : Int32).toInt = 0 := rfl
    refine lv_iload_n hx hb dX9_bestOf_12 rfl (lv_at hl 1 rfl) ?_
    rcases (show (a1.toInt < 0 ∨ 5 < a1.toInt) ∨ a1.toInt = 0 ∨ a1.toInt = 1 ∨ a1.toInt = 2 ∨ a1.toInt = 3 ∨ a1.toInt = 4 ∨ a1.toInt = 5 from by omega) with c4 | c4 | c4 | c4 | c4 | c4 | c4
    · skip
      refine lv_tableOut (tgt := 117) hx hb dX9_bestOf_13 c4 (by decide) ?_
      obtain ⟨v5, ev5, tv5⟩ : ∃ v : Int32, Int32.ofInt (-1) = v ∧ v.toInt = -1 := ⟨_, rfl, by decide +kernel⟩
      refine lv_iconst hx hb dX9_bestOf_117 ev5 ?_
      rw [← hQ]
      exact en_i Z S0 F0_ rfl dX9_bestOf_118
    · skip
      refine lv_tableIn (tgt := 52) (off := 39) hx hb dX9_bestOf_13 (by omega) (by omega) (by rw [show (a1.toInt - 0).toNat = 0 from by omega]; rfl) (by decide) ?_
      refine lv_aload_n hx hb dX9_bestOf_52 rfl (lv_at hl 0 rfl) ?_
      refine tr_getr Z.1 Z.2.2.2.1 S0.1 S0.2 ha0 ta0 rfl rfl (fun _ h => List.mem_cons_of_mem _ (List.mem_append_left _ (List.mem_append_right _ h))) 5 (by decide) rfl (hts _ (List.mem_of_getElem? (i := 1) rfl)) dX9_bestOf_53 (fun q6 eq6 hq6 tq6 => ?_)
      have tq6 : τ q6 = (8, 0) := tq6
      have uq6 : q1 = q6 := S0.2.2.2.2 _ hq1 _ hq6 (tq1.trans tq6.symm) (by rw [tq1]; rfl)
      subst uq6
      refine tr_geti Z.1 Z.2.2.2.1 S0.1 S0.2 hq1 tq1 rfl rfl (fun _ h => List.mem_cons_of_mem _ (List.mem_append_right _ h)) 7 (by decide) rfl (hts _ (List.mem_of_getElem? (i := 3) rfl)) dX9_bestOf_56 (fun v7 ev7 lv7 uv7 => ?_)
      rw [← hQ]
      exact en_i Z S0 F0_ rfl dX9_bestOf_59
    · skip
      refine lv_tableIn (tgt := 60) (off := 47) hx hb dX9_bestOf_13 (by omega) (by omega) (by rw [show (a1.toInt - 0).toNat = 1 from by omega]; rfl) (by decide) ?_
      refine lv_aload_n hx hb dX9_bestOf_60 rfl (lv_at hl 0 rfl) ?_
      refine tr_getr Z.1 Z.2.2.2.1 S0.1 S0.2 ha0 ta0 rfl rfl (fun _ h => List.mem_cons_of_mem _ (List.mem_append_left _ (List.mem_append_right _ h))) 5 (by decide) rfl (hts _ (List.mem_of_getElem? (i := 1) rfl)) dX9_bestOf_61 (fun q8 eq8 hq8 tq8 => ?_)
      have tq8 : τ q8 = (8, 0) := tq8
      have uq8 : q1 = q8 := S0.2.2.2.2 _ hq1 _ hq8 (tq1.trans tq8.symm) (by rw [tq1]; rfl)
      subst uq8
      refine tr_geti Z.1 Z.2.2.2.1 S0.1 S0.2 hq1 tq1 rfl rfl (fun _ h => List.mem_cons_of_mem _ (List.mem_append_right _ h)) 8 (by decide) rfl (hts _ (List.mem_of_getElem? (i := 4) rfl)) dX9_bestOf_64 (fun v9 ev9 lv9 uv9 => ?_)
      refine lv_if_le (tgt := 80) hx hb dX9_bestOf_67 (by decide) (fun c10 => ?_) (fun c10 => ?_)
      · skip
        have tc10 := nu_le c10
        have uc10 : (0 : Int32).toInt = 0 := rfl
        obtain ⟨v11, ev11, tv11⟩ : ∃ v : Int32, Int32.ofInt (-1) = v ∧ v.toInt = -1 := ⟨_, rfl, by decide +kernel⟩
        refine lv_iconst hx hb dX9_bestOf_80 ev11 ?_
        rw [← hQ]
        exact en_i Z S0 F0_ rfl dX9_bestOf_81
      · skip
        have tc10 := nu_nle c10
        have uc10 : (0 : Int32).toInt = 0 := rfl
        refine lv_aload_n hx hb dX9_bestOf_70 rfl (lv_at hl 0 rfl) ?_
        refine tr_getr Z.1 Z.2.2.2.1 S0.1 S0.2 ha0 ta0 rfl rfl (fun _ h => List.mem_cons_of_mem _ (List.mem_append_left _ (List.mem_append_right _ h))) 5 (by decide) rfl (hts _ (List.mem_of_getElem? (i := 1) rfl)) dX9_bestOf_71 (fun q12 eq12 hq12 tq12 => ?_)
        have tq12 : τ q12 = (8, 0) := tq12
        have uq12 : q1 = q12 := S0.2.2.2.2 _ hq1 _ hq12 (tq1.trans tq12.symm) (by rw [tq1]; rfl)
        subst uq12
        refine tr_geti Z.1 Z.2.2.2.1 S0.1 S0.2 hq1 tq1 rfl rfl (fun _ h => List.mem_cons_of_mem _ (List.mem_append_right _ h)) 9 (by decide) rfl (hts _ (List.mem_of_getElem? (i := 5) rfl)) dX9_bestOf_74 (fun v13 ev13 lv13 uv13 => ?_)
        refine lv_goto (tgt := 81) hx hb dX9_bestOf_77 (by decide) ?_
        rw [← hQ]
        exact en_i Z S0 F0_ rfl dX9_bestOf_81
    · skip
      refine lv_tableIn (tgt := 82) (off := 69) hx hb dX9_bestOf_13 (by omega) (by omega) (by rw [show (a1.toInt - 0).toNat = 2 from by omega]; rfl) (by decide) ?_
      refine lv_aload_n hx hb dX9_bestOf_82 rfl (lv_at hl 0 rfl) ?_
      refine tr_getr Z.1 Z.2.2.2.1 S0.1 S0.2 ha0 ta0 rfl rfl (fun _ h => List.mem_cons_of_mem _ (List.mem_append_left _ (List.mem_append_right _ h))) 5 (by decide) rfl (hts _ (List.mem_of_getElem? (i := 1) rfl)) dX9_bestOf_83 (fun q14 eq14 hq14 tq14 => ?_)
      have tq14 : τ q14 = (8, 0) := tq14
      have uq14 : q1 = q14 := S0.2.2.2.2 _ hq1 _ hq14 (tq1.trans tq14.symm) (by rw [tq1]; rfl)
      subst uq14
      obtain ⟨v15, ev15, tv15⟩ : ∃ v : Int32, Int32.ofInt (0) = v ∧ v.toInt = 0 := ⟨_, rfl, by decide +kernel⟩
      refine lv_iconst hx hb dX9_bestOf_86 ev15 ?_
      refine tc_vi Z.1 Z.2.2.2.1 Z.2.2.2.2.1 Z.2.2.2.2.2 S0.1 S0.2 hq1 tq1 rfl rfl (k_X7_toldTreads l D cy S0.2 hq1 tq1 v15 (by omega) (by omega)) (cwV 1 hts gX9_bestOf_X7_toldTreads rfl rfl rfl (by decide +kernel) ⟨Nat.le_of_ble_eq_true rfl, Nat.le_of_ble_eq_true rfl⟩) rfl hl.1 rfl (Nat.le_of_ble_eq_true rfl) dX9_bestOf_87 ⟨Nat.zero_le _, Nat.zero_le _⟩ (fun v19 E16 H17 k18 W16 I16 G16 p16 => ?_)
      have q16 := p16
      have q16 := q16.symm
      subst q16
      have S16 : Now D TB cy (va_A (va_pl L E) sz) s L τ E H17 k18 := ⟨W16, I16⟩
      rw [← hQ]
      exact en_i Z S16 F0_ rfl dX9_bestOf_90
    · skip
      refine lv_tableIn (tgt := 91) (off := 78) hx hb dX9_bestOf_13 (by omega) (by omega) (by rw [show (a1.toInt - 0).toNat = 3 from by omega]; rfl) (by decide) ?_
      refine lv_aload_n hx hb dX9_bestOf_91 rfl (lv_at hl 0 rfl) ?_
      refine tr_getr Z.1 Z.2.2.2.1 S0.1 S0.2 ha0 ta0 rfl rfl (fun _ h => List.mem_cons_of_mem _ (List.mem_append_left _ (List.mem_append_right _ h))) 5 (by decide) rfl (hts _ (List.mem_of_getElem? (i := 1) rfl)) dX9_bestOf_92 (fun q20 eq20 hq20 tq20 => ?_)
      have tq20 : τ q20 = (8, 0) := tq20
      have uq20 : q1 = q20 := S0.2.2.2.2 _ hq1 _ hq20 (tq1.trans tq20.symm) (by rw [tq1]; rfl)
      subst uq20
      obtain ⟨v21, ev21, tv21⟩ : ∃ v : Int32, Int32.ofInt (1) = v ∧ v.toInt = 1 := ⟨_, rfl, by decide +kernel⟩
      refine lv_iconst hx hb dX9_bestOf_95 ev21 ?_
      refine tc_vi Z.1 Z.2.2.2.1 Z.2.2.2.2.1 Z.2.2.2.2.2 S0.1 S0.2 hq1 tq1 rfl rfl (k_X7_toldTreads l D cy S0.2 hq1 tq1 v21 (by omega) (by omega)) (cwV 1 hts gX9_bestOf_X7_toldTreads rfl rfl rfl (by decide +kernel) ⟨Nat.le_of_ble_eq_true rfl, Nat.le_of_ble_eq_true rfl⟩) rfl hl.1 rfl (Nat.le_of_ble_eq_true rfl) dX9_bestOf_96 ⟨Nat.zero_le _, Nat.zero_le _⟩ (fun v25 E22 H23 k24 W22 I22 G22 p22 => ?_)
      have q22 := p22
      have q22 := q22.symm
      subst q22
      have S22 : Now D TB cy (va_A (va_pl L E) sz) s L τ E H23 k24 := ⟨W22, I22⟩
      rw [← hQ]
      exact en_i Z S22 F0_ rfl dX9_bestOf_99
    · skip
      refine lv_tableIn (tgt := 100) (off := 87) hx hb dX9_bestOf_13 (by omega) (by omega) (by rw [show (a1.toInt - 0).toNat = 4 from by omega]; rfl) (by decide) ?_
      refine lv_aload_n hx hb dX9_bestOf_100 rfl (lv_at hl 0 rfl) ?_
      refine tr_getr Z.1 Z.2.2.2.1 S0.1 S0.2 ha0 ta0 rfl rfl (fun _ h => List.mem_cons_of_mem _ (List.mem_append_left _ (List.mem_append_right _ h))) 5 (by decide) rfl (hts _ (List.mem_of_getElem? (i := 1) rfl)) dX9_bestOf_101 (fun q26 eq26 hq26 tq26 => ?_)
      have tq26 : τ q26 = (8, 0) := tq26
      have uq26 : q1 = q26 := S0.2.2.2.2 _ hq1 _ hq26 (tq1.trans tq26.symm) (by rw [tq1]; rfl)
      subst uq26
      obtain ⟨v27, ev27, tv27⟩ : ∃ v : Int32, Int32.ofInt (2) = v ∧ v.toInt = 2 := ⟨_, rfl, by decide +kernel⟩
      refine lv_iconst hx hb dX9_bestOf_104 ev27 ?_
      refine tc_vi Z.1 Z.2.2.2.1 Z.2.2.2.2.1 Z.2.2.2.2.2 S0.1 S0.2 hq1 tq1 rfl rfl (k_X7_toldTreads l D cy S0.2 hq1 tq1 v27 (by omega) (by omega)) (cwV 1 hts gX9_bestOf_X7_toldTreads rfl rfl rfl (by decide +kernel) ⟨Nat.le_of_ble_eq_true rfl, Nat.le_of_ble_eq_true rfl⟩) rfl hl.1 rfl (Nat.le_of_ble_eq_true rfl) dX9_bestOf_105 ⟨Nat.zero_le _, Nat.zero_le _⟩ (fun v31 E28 H29 k30 W28 I28 G28 p28 => ?_)
      have q28 := p28
      have q28 := q28.symm
      subst q28
      have S28 : Now D TB cy (va_A (va_pl L E) sz) s L τ E H29 k30 := ⟨W28, I28⟩
      rw [← hQ]
      exact en_i Z S28 F0_ rfl dX9_bestOf_108
    · skip
      refine lv_tableIn (tgt := 109) (off := 96) hx hb dX9_bestOf_13 (by omega) (by omega) (by rw [show (a1.toInt - 0).toNat = 5 from by omega]; rfl) (by decide) ?_
      refine lv_aload_n hx hb dX9_bestOf_109 rfl (lv_at hl 0 rfl) ?_
      refine tr_getr Z.1 Z.2.2.2.1 S0.1 S0.2 ha0 ta0 rfl rfl (fun _ h => List.mem_cons_of_mem _ (List.mem_append_left _ (List.mem_append_right _ h))) 5 (by decide) rfl (hts _ (List.mem_of_getElem? (i := 1) rfl)) dX9_bestOf_110 (fun q32 eq32 hq32 tq32 => ?_)
      have tq32 : τ q32 = (8, 0) := tq32
      have uq32 : q1 = q32 := S0.2.2.2.2 _ hq1 _ hq32 (tq1.trans tq32.symm) (by rw [tq1]; rfl)
      subst uq32
      refine tr_geti Z.1 Z.2.2.2.1 S0.1 S0.2 hq1 tq1 rfl rfl (fun _ h => List.mem_cons_of_mem _ (List.mem_append_right _ h)) 8 (by decide) rfl (hts _ (List.mem_of_getElem? (i := 4) rfl)) dX9_bestOf_113 (fun v33 ev33 lv33 uv33 => ?_)
      rw [← hQ]
      exact en_i Z S0 F0_ rfl dX9_bestOf_116
  · skip
    have tc3 := nu_eq c3
    have uc3 : (0 : Int32).toInt = 0 := rfl
    obtain ⟨v34, ev34, tv34⟩ : ∃ v : Int32, Int32.ofInt (-1) = v ∧ v.toInt = -1 := ⟨_, rfl, by decide +kernel⟩
    refine lv_iconst hx hb dX9_bestOf_10 ev34 ?_
    rw [← hQ]
    exact en_i Z S0 F0_ rfl dX9_bestOf_11

set_option maxRecDepth 20000 in
theorem ggX9_tried_X9_within : GoodIn wsX9_tried wsX9_within := goodIn_r _ [7] (by decide +kernel) (by decide +kernel)
set_option maxRecDepth 20000 in
theorem gX9_tried_X9_within : GoodIn wsX9_tried (va_wsS RX9 73 yX9_within wsX9_within) := goodIn_app (goodIn_of _ (by decide +kernel)) ggX9_tried_X9_within
theorem dX9_tried_0 : decode cX9_tried 0 = .ok (.iload_n 1, 1) := by decide +kernel
theorem dX9_tried_1 : decode cX9_tried 1 = .ok (.iconst 0, 1) := by decide +kernel
theorem dX9_tried_2 : decode cX9_tried 2 = .ok (.aload_n 0, 1) := by decide +kernel
theorem dX9_tried_3 : decode cX9_tried 3 = .ok (.getfield 47, 3) := by decide +kernel
theorem dX9_tried_6 : decode cX9_tried 6 = .ok (.getfield 242, 3) := by decide +kernel
theorem dX9_tried_9 : decode cX9_tried 9 = .ok (.iconst 1, 1) := by decide +kernel
theorem dX9_tried_10 : decode cX9_tried 10 = .ok (.isub, 1) := by decide +kernel
theorem dX9_tried_11 : decode cX9_tried 11 = .ok (.invokestatic 73, 3) := by decide +kernel
theorem dX9_tried_14 : decode cX9_tried 14 = .ok (.ifCond .eq 19, 3) := by decide +kernel
theorem dX9_tried_17 : decode cX9_tried 17 = .ok (.iload_n 1, 1) := by decide +kernel
theorem dX9_tried_18 : decode cX9_tried 18 = .ok (.aload_n 0, 1) := by decide +kernel
theorem dX9_tried_19 : decode cX9_tried 19 = .ok (.getfield 47, 3) := by decide +kernel
theorem dX9_tried_22 : decode cX9_tried 22 = .ok (.getfield 253, 3) := by decide +kernel
theorem dX9_tried_25 : decode cX9_tried 25 = .ok (.arraylength, 1) := by decide +kernel
theorem dX9_tried_26 : decode cX9_tried 26 = .ok (.if_icmp .ge 7, 3) := by decide +kernel
theorem dX9_tried_29 : decode cX9_tried 29 = .ok (.iconst 1, 1) := by decide +kernel
theorem dX9_tried_30 : decode cX9_tried 30 = .ok (.goto 4, 3) := by decide +kernel
theorem dX9_tried_33 : decode cX9_tried 33 = .ok (.iconst 0, 1) := by decide +kernel
theorem dX9_tried_34 : decode cX9_tried 34 = .ok (.istore_n 2, 1) := by decide +kernel
theorem dX9_tried_35 : decode cX9_tried 35 = .ok (.iload_n 2, 1) := by decide +kernel
theorem dX9_tried_36 : decode cX9_tried 36 = .ok (.ifCond .eq 15, 3) := by decide +kernel
theorem dX9_tried_39 : decode cX9_tried 39 = .ok (.aload_n 0, 1) := by decide +kernel
theorem dX9_tried_40 : decode cX9_tried 40 = .ok (.getfield 47, 3) := by decide +kernel
theorem dX9_tried_43 : decode cX9_tried 43 = .ok (.getfield 253, 3) := by decide +kernel
theorem dX9_tried_46 : decode cX9_tried 46 = .ok (.iload_n 1, 1) := by decide +kernel
theorem dX9_tried_47 : decode cX9_tried 47 = .ok (.iaload, 1) := by decide +kernel
theorem dX9_tried_48 : decode cX9_tried 48 = .ok (.goto 4, 3) := by decide +kernel
theorem dX9_tried_51 : decode cX9_tried 51 = .ok (.iconst (-1), 1) := by decide +kernel
theorem dX9_tried_52 : decode cX9_tried 52 = .ok (.ireturn, 1) := by decide +kernel
set_option maxHeartbeats 4000000 in
set_option maxRecDepth 100000 in
theorem k_X9_tried (l : Launch) (D : va_G) (cy : Nat → ClassId) {L : List Nat} {τ : Nat → Ro} {E : Ec} (hI : Inv TB cy L τ E) {a0 : Nat} (ha0 : a0 ∈ L) (ta0 : τ a0 = (0, 0)) (a1 : Int32) : CtI l yX9_tried wsX9_tried { frames := 1, cells := 0, slots := 0, locals := 22 } D TB cy L τ E [.ref a0, .int a1] (inW []) (fun r E' => E' = E) := by
  intro sz
  refine sta (cc := cX9_tried) (maxL := 3) hI (by decide) rfl (Nat.le_of_ble_eq_true rfl) (fun p e s m args below meth c ls hsz Z S0 hl => ?_)
  have hx := Z.1.1
  have hb := Z.1.2.1
  have hts := Z.1.2.2.2.2
  have F0_ : Fr L τ (inW []) E E := Fr.refl
  have hl : lv_has ls 3 [(0, .ref a0), (1, .int a1)] := hl
  generalize hQ : MQ below _ args s 0 0 _ = QQ
  have J33 : ∀  (H_33 : Heap) (k_33 : List Loc) (l_33 : Array Slot), Now D TB cy (va_A (va_pl L E) sz) s L τ E H_33 k_33 → lv_has l_33 3 [(0, .ref a0), (1, .int a1)] → W p l e { frames := 1, cells := 0, slots := 0, locals := 22 } s m args below meth c H_33 k_33 0 0 QQ (F0 m 33 l_33 []) := by
    intro  H_33 k_33 l_33 S_33  hl_33
    obtain ⟨v1, ev1, tv1⟩ : ∃ v : Int32, Int32.ofInt (0) = v ∧ v.toInt = 0 := ⟨_, rfl, by decide +kernel⟩
    refine lv_iconst hx hb dX9_tried_33 ev1 ?_
    refine lv_istore_n (lv' := [(2, .int v1), (0, .ref a0), (1, .int a1)]) hx hb dX9_tried_34 rfl hl_33 (by decide) rfl (fun l2 hl3 => ?_)
    refine lv_iload_n hx hb dX9_tried_35 rfl (lv_at hl3 0 rfl) ?_
    refine lv_if_eq (tgt := 51) hx hb dX9_tried_36 (by decide) (fun c4 => ?_) (fun c4 => ?_)
    · skip
      have tc4 := nu_eq c4
      have uc4 : (0 : Int32).toInt = 0 := rfl
      obtain ⟨v5, ev5, tv5⟩ : ∃ v : Int32, Int32.ofInt (-1) = v ∧ v.toInt = -1 := ⟨_, rfl, by decide +kernel⟩
      refine lv_iconst hx hb dX9_tried_51 ev5 ?_
      rw [← hQ]
      exact en_i Z S_33 F0_ rfl dX9_tried_52
    · skip
      have tc4 := nu_ne c4
      have uc4 : (0 : Int32).toInt = 0 := rfl
      omega
  refine lv_iload_n hx hb dX9_tried_0 rfl (lv_at hl 1 rfl) ?_
  obtain ⟨v6, ev6, tv6⟩ : ∃ v : Int32, Int32.ofInt (0) = v ∧ v.toInt = 0 := ⟨_, rfl, by decide +kernel⟩
  refine lv_iconst hx hb dX9_tried_1 ev6 ?_
  refine lv_aload_n hx hb dX9_tried_2 rfl (lv_at hl 0 rfl) ?_
  refine tr_getr Z.1 Z.2.2.2.1 S0.1 S0.2 ha0 ta0 rfl rfl (fun _ h => List.mem_cons_of_mem _ (List.mem_append_left _ (List.mem_append_right _ h))) 5 (by decide) rfl (hts _ (List.mem_of_getElem? (i := 1) rfl)) dX9_tried_3 (fun q7 eq7 hq7 tq7 => ?_)
  have tq7 : τ q7 = (8, 0) := tq7
  refine tr_geti Z.1 Z.2.2.2.1 S0.1 S0.2 hq7 tq7 rfl rfl (fun _ h => List.mem_cons_of_mem _ (List.mem_append_right _ h)) 7 (by decide) rfl (hts _ (List.mem_of_getElem? (i := 2) rfl)) dX9_tried_6 (fun v8 ev8 lv8 uv8 => ?_)
  obtain ⟨v9, ev9, tv9⟩ : ∃ v : Int32, Int32.ofInt (1) = v ∧ v.toInt = 1 := ⟨_, rfl, by decide +kernel⟩
  refine lv_iconst hx hb dX9_tried_9 ev9 ?_
  refine lv_isub hx hb dX9_tried_10 ?_
  refine lv_topi (fun v10 ev10 => ?_)
  have tv10 := nu_sub ev10 (by omega) (by omega)
  refine tc_si Z.1 Z.2.2.2.1 Z.2.2.2.2.1 Z.2.2.2.2.2 S0.1 (k_X9_within l D cy S0.2 a1 v6 v10) (va_cwS 3 hts gX9_tried_X9_within rfl rfl rfl (by decide +kernel) ⟨Nat.le_of_ble_eq_true rfl, Nat.le_of_ble_eq_true rfl⟩) rfl hl.1 rfl (Nat.le_of_ble_eq_true rfl) dX9_tried_11 ⟨Nat.zero_le _, Nat.zero_le _⟩ (fun v14 E11 H12 k13 W11 I11 G11 p11 => ?_)
  obtain ⟨q11, p11_0, p11_1, p11_2⟩ := p11
  have q11 := q11.symm
  subst q11
  have S11 : Now D TB cy (va_A (va_pl L E) sz) s L τ E H12 k13 := ⟨W11, I11⟩
  refine lv_if_eq (tgt := 33) hx hb dX9_tried_14 (by decide) (fun c15 => ?_) (fun c15 => ?_)
  · skip
    have tc15 := nu_eq c15
    have uc15 : (0 : Int32).toInt = 0 := rfl
    exact J33 H12 k13 ls S11 (lv_sub hl [0, 1] rfl)
  · skip
    have tc15 := nu_ne c15
    have uc15 : (0 : Int32).toInt = 0 := rfl
    refine lv_iload_n hx hb dX9_tried_17 rfl (lv_at hl 1 rfl) ?_
    refine lv_aload_n hx hb dX9_tried_18 rfl (lv_at hl 0 rfl) ?_
    refine tr_getr Z.1 Z.2.2.2.1 S11.1 S11.2 ha0 ta0 rfl rfl (fun _ h => List.mem_cons_of_mem _ (List.mem_append_left _ (List.mem_append_right _ h))) 5 (by decide) rfl (hts _ (List.mem_of_getElem? (i := 1) rfl)) dX9_tried_19 (fun q16 eq16 hq16 tq16 => ?_)
    have tq16 : τ q16 = (8, 0) := tq16
    have uq16 : q7 = q16 := S11.2.2.2.2 _ hq7 _ hq16 (tq7.trans tq16.symm) (by rw [tq7]; rfl)
    subst uq16
    refine tr_getr Z.1 Z.2.2.2.1 S11.1 S11.2 hq7 tq7 rfl rfl (fun _ h => List.mem_cons_of_mem _ (List.mem_append_right _ h)) 3 (by decide) rfl (hts _ (List.mem_of_getElem? (i := 3) rfl)) dX9_tried_22 (fun q17 eq17 hq17 tq17 => ?_)
    have tq17 : τ q17 = (37, 0) := tq17
    refine tr_alen Z.1 Z.2.2.2.1 S11.1 S11.2 hq17 tq17 rfl (by omega) dX9_tried_25 (fun v18 tv18 => ?_)
    refine lv_icmp_ge (tgt := 33) hx hb dX9_tried_26 (by decide) (fun c19 => ?_) (fun c19 => ?_)
    · skip
      have tc19 := nu_le c19
      exact J33 H12 k13 ls S11 (lv_sub hl [0, 1] rfl)
    · skip
      have tc19 := nu_nle c19
      obtain ⟨v20, ev20, tv20⟩ : ∃ v : Int32, Int32.ofInt (1) = v ∧ v.toInt = 1 := ⟨_, rfl, by decide +kernel⟩
      refine lv_iconst hx hb dX9_tried_29 ev20 ?_
      refine lv_goto (tgt := 34) hx hb dX9_tried_30 (by decide) ?_
      refine lv_istore_n (lv' := [(2, .int v20), (0, .ref a0), (1, .int a1)]) hx hb dX9_tried_34 rfl hl (by decide) rfl (fun l21 hl22 => ?_)
      refine lv_iload_n hx hb dX9_tried_35 rfl (lv_at hl22 0 rfl) ?_
      refine lv_if_eq (tgt := 51) hx hb dX9_tried_36 (by decide) (fun c23 => ?_) (fun c23 => ?_)
      · skip
        have tc23 := nu_eq c23
        have uc23 : (0 : Int32).toInt = 0 := rfl
        omega
      · skip
        have tc23 := nu_ne c23
        have uc23 : (0 : Int32).toInt = 0 := rfl
        refine lv_aload_n hx hb dX9_tried_39 rfl (lv_at hl22 1 rfl) ?_
        refine tr_getr Z.1 Z.2.2.2.1 S11.1 S11.2 ha0 ta0 rfl rfl (fun _ h => List.mem_cons_of_mem _ (List.mem_append_left _ (List.mem_append_right _ h))) 5 (by decide) rfl (hts _ (List.mem_of_getElem? (i := 1) rfl)) dX9_tried_40 (fun q24 eq24 hq24 tq24 => ?_)
        have tq24 : τ q24 = (8, 0) := tq24
        have uq24 : q7 = q24 := S11.2.2.2.2 _ hq7 _ hq24 (tq7.trans tq24.symm) (by rw [tq7]; rfl)
        subst uq24
        refine tr_getr Z.1 Z.2.2.2.1 S11.1 S11.2 hq7 tq7 rfl rfl (fun _ h => List.mem_cons_of_mem _ (List.mem_append_right _ h)) 3 (by decide) rfl (hts _ (List.mem_of_getElem? (i := 3) rfl)) dX9_tried_43 (fun q25 eq25 hq25 tq25 => ?_)
        have tq25 : τ q25 = (37, 0) := tq25
        have uq25 : q17 = q25 := S11.2.2.2.2 _ hq17 _ hq25 (tq17.trans tq25.symm) (by rw [tq17]; rfl)
        subst uq25
        refine lv_iload_n hx hb dX9_tried_46 rfl (lv_at hl22 2 rfl) ?_
        refine tr_iald Z.1 Z.2.2.2.1 S11.1 S11.2 hq17 tq17 rfl (by omega) (by omega) dX9_tried_47 (fun v26 ev26 lv26 uv26 => ?_)
        refine lv_goto (tgt := 52) hx hb dX9_tried_48 (by decide) ?_
        rw [← hQ]
        exact en_i Z S11 F0_ rfl dX9_tried_52

set_option maxRecDepth 20000 in
theorem ggX9_piece_X9_within : GoodIn wsX9_piece wsX9_within := goodIn_r _ [8] (by decide +kernel) (by decide +kernel)
set_option maxRecDepth 20000 in
theorem gX9_piece_X9_within : GoodIn wsX9_piece (va_wsS RX9 73 yX9_within wsX9_within) := goodIn_app (goodIn_of _ (by decide +kernel)) ggX9_piece_X9_within
set_option maxRecDepth 20000 in
theorem ggX9_piece_X9_refuse : GoodIn wsX9_piece wsX9_refuse := goodIn_r _ [12, 3, 13, 14, 15, 16, 17, 18, 19, 20, 21, 22, 23] (by decide +kernel) (by decide +kernel)
set_option maxRecDepth 20000 in
theorem gX9_piece_X9_refuse : GoodIn wsX9_piece (wsV RX9 153 RX9 yX9_refuse wsX9_refuse) := goodIn_app (goodIn_of _ (by decide +kernel)) ggX9_piece_X9_refuse
theorem dX9_piece_0 : decode cX9_piece 0 = .ok (.iload_n 1, 1) := by decide +kernel
theorem dX9_piece_1 : decode cX9_piece 1 = .ok (.iconst 1, 1) := by decide +kernel
theorem dX9_piece_2 : decode cX9_piece 2 = .ok (.sipush 10000, 3) := by decide +kernel
theorem dX9_piece_5 : decode cX9_piece 5 = .ok (.invokestatic 73, 3) := by decide +kernel
theorem dX9_piece_8 : decode cX9_piece 8 = .ok (.ifCond .ne 9, 3) := by decide +kernel
theorem dX9_piece_11 : decode cX9_piece 11 = .ok (.aload_n 0, 1) := by decide +kernel
theorem dX9_piece_12 : decode cX9_piece 12 = .ok (.iconst 1, 1) := by decide +kernel
theorem dX9_piece_13 : decode cX9_piece 13 = .ok (.invokevirtual 153, 3) := by decide +kernel
theorem dX9_piece_16 : decode cX9_piece 16 = .ok (.ireturn, 1) := by decide +kernel
theorem dX9_piece_17 : decode cX9_piece 17 = .ok (.aload_n 0, 1) := by decide +kernel
theorem dX9_piece_18 : decode cX9_piece 18 = .ok (.getfield 54, 3) := by decide +kernel
theorem dX9_piece_21 : decode cX9_piece 21 = .ok (.getfield 144, 3) := by decide +kernel
theorem dX9_piece_24 : decode cX9_piece 24 = .ok (.bipush 12, 2) := by decide +kernel
theorem dX9_piece_26 : decode cX9_piece 26 = .ok (.if_icmp .lt 9, 3) := by decide +kernel
theorem dX9_piece_29 : decode cX9_piece 29 = .ok (.aload_n 0, 1) := by decide +kernel
theorem dX9_piece_30 : decode cX9_piece 30 = .ok (.iconst 3, 1) := by decide +kernel
theorem dX9_piece_31 : decode cX9_piece 31 = .ok (.invokevirtual 153, 3) := by decide +kernel
theorem dX9_piece_34 : decode cX9_piece 34 = .ok (.ireturn, 1) := by decide +kernel
theorem dX9_piece_35 : decode cX9_piece 35 = .ok (.aload_n 0, 1) := by decide +kernel
theorem dX9_piece_36 : decode cX9_piece 36 = .ok (.iconst 0, 1) := by decide +kernel
theorem dX9_piece_37 : decode cX9_piece 37 = .ok (.putfield 66, 3) := by decide +kernel
theorem dX9_piece_40 : decode cX9_piece 40 = .ok (.aload_n 0, 1) := by decide +kernel
theorem dX9_piece_41 : decode cX9_piece 41 = .ok (.getfield 54, 3) := by decide +kernel
theorem dX9_piece_44 : decode cX9_piece 44 = .ok (.getfield 265, 3) := by decide +kernel
theorem dX9_piece_47 : decode cX9_piece 47 = .ok (.aload_n 0, 1) := by decide +kernel
theorem dX9_piece_48 : decode cX9_piece 48 = .ok (.getfield 54, 3) := by decide +kernel
theorem dX9_piece_51 : decode cX9_piece 51 = .ok (.getfield 144, 3) := by decide +kernel
theorem dX9_piece_54 : decode cX9_piece 54 = .ok (.iload_n 1, 1) := by decide +kernel
theorem dX9_piece_55 : decode cX9_piece 55 = .ok (.iastore, 1) := by decide +kernel
theorem dX9_piece_56 : decode cX9_piece 56 = .ok (.aload_n 0, 1) := by decide +kernel
theorem dX9_piece_57 : decode cX9_piece 57 = .ok (.getfield 54, 3) := by decide +kernel
theorem dX9_piece_60 : decode cX9_piece 60 = .ok (.dup, 1) := by decide +kernel
theorem dX9_piece_61 : decode cX9_piece 61 = .ok (.getfield 144, 3) := by decide +kernel
theorem dX9_piece_64 : decode cX9_piece 64 = .ok (.iconst 1, 1) := by decide +kernel
theorem dX9_piece_65 : decode cX9_piece 65 = .ok (.iadd, 1) := by decide +kernel
theorem dX9_piece_66 : decode cX9_piece 66 = .ok (.putfield 144, 3) := by decide +kernel
theorem dX9_piece_69 : decode cX9_piece 69 = .ok (.aload_n 0, 1) := by decide +kernel
theorem dX9_piece_70 : decode cX9_piece 70 = .ok (.getfield 54, 3) := by decide +kernel
theorem dX9_piece_73 : decode cX9_piece 73 = .ok (.getfield 144, 3) := by decide +kernel
theorem dX9_piece_76 : decode cX9_piece 76 = .ok (.ireturn, 1) := by decide +kernel
set_option maxHeartbeats 4000000 in
set_option maxRecDepth 100000 in
theorem k_X9_piece (l : Launch) (D : va_G) (cy : Nat → ClassId) {L : List Nat} {τ : Nat → Ro} {E : Ec} (hI : Inv TB cy L τ E) {a0 : Nat} (ha0 : a0 ∈ L) (ta0 : τ a0 = (0, 0)) (a1 : Int32) : CtI l yX9_piece wsX9_piece { frames := 1, cells := 0, slots := 0, locals := 22 } D TB cy L τ E [.ref a0, .int a1] (inW [(0, 0), (9, 0), (39, 0)]) (fun r E' => True) := by
  intro sz
  refine sta (cc := cX9_piece) (maxL := 2) hI (by decide) rfl (Nat.le_of_ble_eq_true rfl) (fun p e s m args below meth c ls hsz Z S0 hl => ?_)
  have hx := Z.1.1
  have hb := Z.1.2.1
  have hts := Z.1.2.2.2.2
  have F0_ : Fr L τ (inW [(0, 0), (9, 0), (39, 0)]) E E := Fr.refl
  have hl : lv_has ls 2 [(0, .ref a0), (1, .int a1)] := hl
  generalize hQ : MQ below _ args s 0 0 _ = QQ
  refine lv_iload_n hx hb dX9_piece_0 rfl (lv_at hl 1 rfl) ?_
  obtain ⟨v1, ev1, tv1⟩ : ∃ v : Int32, Int32.ofInt (1) = v ∧ v.toInt = 1 := ⟨_, rfl, by decide +kernel⟩
  refine lv_iconst hx hb dX9_piece_1 ev1 ?_
  obtain ⟨v2, ev2, tv2⟩ : ∃ v : Int32, (Int16.ofInt (10000)).toInt32 = v ∧ v.toInt = 10000 := ⟨_, rfl, by decide +kernel⟩
  refine lv_sipush hx hb dX9_piece_2 ev2 ?_
  refine tc_si Z.1 Z.2.2.2.1 Z.2.2.2.2.1 Z.2.2.2.2.2 S0.1 (k_X9_within l D cy S0.2 a1 v1 v2) (va_cwS 3 hts gX9_piece_X9_within rfl rfl rfl (by decide +kernel) ⟨Nat.le_of_ble_eq_true rfl, Nat.le_of_ble_eq_true rfl⟩) rfl hl.1 rfl (Nat.le_of_ble_eq_true rfl) dX9_piece_5 ⟨Nat.zero_le _, Nat.zero_le _⟩ (fun v6 E3 H4 k5 W3 I3 G3 p3 => ?_)
  obtain ⟨q3, p3_0, p3_1, p3_2⟩ := p3
  have q3 := q3.symm
  subst q3
  have S3 : Now D TB cy (va_A (va_pl L E) sz) s L τ E H4 k5 := ⟨W3, I3⟩
  refine lv_if_ne (tgt := 17) hx hb dX9_piece_8 (by decide) (fun c7 => ?_) (fun c7 => ?_)
  · skip
    have tc7 := nu_ne c7
    have uc7 : (0 : Int32).toInt = 0 := rfl
    refine lv_aload_n hx hb dX9_piece_17 rfl (lv_at hl 0 rfl) ?_
    refine tr_getr Z.1 Z.2.2.2.1 S3.1 S3.2 ha0 ta0 rfl rfl (fun _ h => List.mem_cons_of_mem _ (List.mem_append_left _ (List.mem_append_right _ h))) 6 (by decide) rfl (hts _ (List.mem_of_getElem? (i := 1) rfl)) dX9_piece_18 (fun q8 eq8 hq8 tq8 => ?_)
    have tq8 : τ q8 = (9, 0) := tq8
    refine tr_geti Z.1 Z.2.2.2.1 S3.1 S3.2 hq8 tq8 rfl rfl (fun _ h => List.mem_cons_of_mem _ (List.mem_append_right _ h)) 2 (by decide) rfl (hts _ (List.mem_of_getElem? (i := 2) rfl)) dX9_piece_21 (fun v9 ev9 lv9 uv9 => ?_)
    obtain ⟨v10, ev10, tv10⟩ : ∃ v : Int32, (Int8.ofInt (12)).toInt32 = v ∧ v.toInt = 12 := ⟨_, rfl, by decide +kernel⟩
    refine lv_bipush hx hb dX9_piece_24 ev10 ?_
    refine lv_icmp_lt (tgt := 35) hx hb dX9_piece_26 (by decide) (fun c11 => ?_) (fun c11 => ?_)
    · skip
      have tc11 := nu_lt c11
      refine lv_aload_n hx hb dX9_piece_35 rfl (lv_at hl 0 rfl) ?_
      obtain ⟨v12, ev12, tv12⟩ : ∃ v : Int32, Int32.ofInt (0) = v ∧ v.toInt = 0 := ⟨_, rfl, by decide +kernel⟩
      refine lv_iconst hx hb dX9_piece_36 ev12 ?_
      refine tr_puti Z.1 Z.2.2.2.1 S3.1 S3.2 ha0 ta0 rfl rfl (fun _ h => List.mem_cons_of_mem _ (List.mem_append_left _ (List.mem_append_right _ h))) tyX9_ok nmX9 9 (by decide) rfl rfl rfl (hts _ (List.mem_of_getElem? (i := 3) rfl)) dX9_piece_37 (by have := fb_rng v12; omega) (by have := fb_rng v12; omega) (fun E13 H14 k15 W13 I13 P13 => ?_)
      have S13 : Now D TB cy (va_A (va_pl L E) sz) s L τ E13 H14 k15 := ⟨W13, I13⟩
      have F13 : Fr L τ (inW [(0, 0), (9, 0), (39, 0)]) E E13 := Fr.put F0_ P13 ta0 rfl
      refine lv_aload_n hx hb dX9_piece_40 rfl (lv_at hl 0 rfl) ?_
      refine tr_getr Z.1 Z.2.2.2.1 S13.1 S13.2 ha0 ta0 rfl rfl (fun _ h => List.mem_cons_of_mem _ (List.mem_append_left _ (List.mem_append_right _ h))) 6 (by decide) rfl (hts _ (List.mem_of_getElem? (i := 1) rfl)) dX9_piece_41 (fun q16 eq16 hq16 tq16 => ?_)
      have tq16 : τ q16 = (9, 0) := tq16
      have uq16 : q8 = q16 := S13.2.2.2.2 _ hq8 _ hq16 (tq8.trans tq16.symm) (by rw [tq8]; rfl)
      subst uq16
      refine tr_getr Z.1 Z.2.2.2.1 S13.1 S13.2 hq8 tq8 rfl rfl (fun _ h => List.mem_cons_of_mem _ (List.mem_append_right _ h)) 0 (by decide) rfl (hts _ (List.mem_of_getElem? (i := 4) rfl)) dX9_piece_44 (fun q17 eq17 hq17 tq17 => ?_)
      have tq17 : τ q17 = (39, 0) := tq17
      refine lv_aload_n hx hb dX9_piece_47 rfl (lv_at hl 0 rfl) ?_
      refine tr_getr Z.1 Z.2.2.2.1 S13.1 S13.2 ha0 ta0 rfl rfl (fun _ h => List.mem_cons_of_mem _ (List.mem_append_left _ (List.mem_append_right _ h))) 6 (by decide) rfl (hts _ (List.mem_of_getElem? (i := 1) rfl)) dX9_piece_48 (fun q18 eq18 hq18 tq18 => ?_)
      have tq18 : τ q18 = (9, 0) := tq18
      have uq18 : q8 = q18 := S13.2.2.2.2 _ hq8 _ hq18 (tq8.trans tq18.symm) (by rw [tq8]; rfl)
      subst uq18
      refine tr_geti Z.1 Z.2.2.2.1 S13.1 S13.2 hq8 tq8 rfl rfl (fun _ h => List.mem_cons_of_mem _ (List.mem_append_right _ h)) 2 (by decide) rfl (hts _ (List.mem_of_getElem? (i := 2) rfl)) dX9_piece_51 (fun v19 ev19 lv19 uv19 => ?_)
      have wv19 : v19 = v9 := ev19.symm.trans ((fi_put P13 (Or.inl (ne_ro tq8 ta0 (by decide)))).trans ev9)
      have xv19 : v19.toInt = v9.toInt := by rw [wv19]
      refine lv_iload_n hx hb dX9_piece_54 rfl (lv_at hl 1 rfl) ?_
      refine tr_iast Z.1 Z.2.2.2.1 S13.1 S13.2 hq17 tq17 rfl (by omega) (by omega) (by have := fb_rng a1; omega) (by have := fb_rng a1; omega) dX9_piece_55 (fun E20 H21 k22 W20 I20 P20 => ?_)
      have S20 : Now D TB cy (va_A (va_pl L E) sz) s L τ E20 H21 k22 := ⟨W20, I20⟩
      have F20 : Fr L τ (inW [(0, 0), (9, 0), (39, 0)]) E E20 := Fr.set F13 P20 tq17 rfl
      refine lv_aload_n hx hb dX9_piece_56 rfl (lv_at hl 0 rfl) ?_
      refine tr_getr Z.1 Z.2.2.2.1 S20.1 S20.2 ha0 ta0 rfl rfl (fun _ h => List.mem_cons_of_mem _ (List.mem_append_left _ (List.mem_append_right _ h))) 6 (by decide) rfl (hts _ (List.mem_of_getElem? (i := 1) rfl)) dX9_piece_57 (fun q23 eq23 hq23 tq23 => ?_)
      have tq23 : τ q23 = (9, 0) := tq23
      have uq23 : q8 = q23 := S20.2.2.2.2 _ hq8 _ hq23 (tq8.trans tq23.symm) (by rw [tq8]; rfl)
      subst uq23
      refine lv_dup hx hb dX9_piece_60 rfl ?_
      refine tr_geti Z.1 Z.2.2.2.1 S20.1 S20.2 hq8 tq8 rfl rfl (fun _ h => List.mem_cons_of_mem _ (List.mem_append_right _ h)) 2 (by decide) rfl (hts _ (List.mem_of_getElem? (i := 2) rfl)) dX9_piece_61 (fun v24 ev24 lv24 uv24 => ?_)
      have wv24 : v24 = v19 := ev24.symm.trans ((fi_set P20 (ne_ro tq8 tq17 (by decide))).trans ev19)
      have xv24 : v24.toInt = v19.toInt := by rw [wv24]
      obtain ⟨v25, ev25, tv25⟩ : ∃ v : Int32, Int32.ofInt (1) = v ∧ v.toInt = 1 := ⟨_, rfl, by decide +kernel⟩
      refine lv_iconst hx hb dX9_piece_64 ev25 ?_
      refine lv_iadd hx hb dX9_piece_65 ?_
      refine lv_topi (fun v26 ev26 => ?_)
      have tv26 := nu_add ev26 (by omega) (by omega)
      refine tr_puti Z.1 Z.2.2.2.1 S20.1 S20.2 hq8 tq8 rfl rfl (fun _ h => List.mem_cons_of_mem _ (List.mem_append_right _ h)) tyX0_ok nmX0 2 (by decide) rfl rfl rfl (hts _ (List.mem_of_getElem? (i := 2) rfl)) dX9_piece_66 (by omega) (by omega) (fun E27 H28 k29 W27 I27 P27 => ?_)
      have S27 : Now D TB cy (va_A (va_pl L E) sz) s L τ E27 H28 k29 := ⟨W27, I27⟩
      have F27 : Fr L τ (inW [(0, 0), (9, 0), (39, 0)]) E E27 := Fr.put F20 P27 tq8 rfl
      refine lv_aload_n hx hb dX9_piece_69 rfl (lv_at hl 0 rfl) ?_
      refine tr_getr Z.1 Z.2.2.2.1 S27.1 S27.2 ha0 ta0 rfl rfl (fun _ h => List.mem_cons_of_mem _ (List.mem_append_left _ (List.mem_append_right _ h))) 6 (by decide) rfl (hts _ (List.mem_of_getElem? (i := 1) rfl)) dX9_piece_70 (fun q30 eq30 hq30 tq30 => ?_)
      have tq30 : τ q30 = (9, 0) := tq30
      have uq30 : q8 = q30 := S27.2.2.2.2 _ hq8 _ hq30 (tq8.trans tq30.symm) (by rw [tq8]; rfl)
      subst uq30
      refine tr_geti Z.1 Z.2.2.2.1 S27.1 S27.2 hq8 tq8 rfl rfl (fun _ h => List.mem_cons_of_mem _ (List.mem_append_right _ h)) 2 (by decide) rfl (hts _ (List.mem_of_getElem? (i := 2) rfl)) dX9_piece_73 (fun v31 ev31 lv31 uv31 => ?_)
      have wv31 : v31 = v26 := ev31.symm.trans (fi_at P27)
      have xv31 : v31.toInt = v26.toInt := by rw [wv31]
      rw [← hQ]
      exact en_i Z S27 F27 trivial dX9_piece_76
    · skip
      have tc11 := nu_nlt c11
      refine lv_aload_n hx hb dX9_piece_29 rfl (lv_at hl 0 rfl) ?_
      obtain ⟨v32, ev32, tv32⟩ : ∃ v : Int32, Int32.ofInt (3) = v ∧ v.toInt = 3 := ⟨_, rfl, by decide +kernel⟩
      refine lv_iconst hx hb dX9_piece_30 ev32 ?_
      refine tc_vi Z.1 Z.2.2.2.1 Z.2.2.2.2.1 Z.2.2.2.2.2 S3.1 S3.2 ha0 ta0 rfl rfl (k_X9_refuse l D cy S3.2 ha0 ta0 v32) (cwV 1 hts gX9_piece_X9_refuse rfl rfl rfl (by decide +kernel) ⟨Nat.le_of_ble_eq_true rfl, Nat.le_of_ble_eq_true rfl⟩) rfl hl.1 rfl (Nat.le_of_ble_eq_true rfl) dX9_piece_31 ⟨Nat.zero_le _, Nat.zero_le _⟩ (fun v36 E33 H34 k35 W33 I33 G33 p33 => ?_)
      obtain ⟨p33_0, p33_1⟩ := p33
      have S33 : Now D TB cy (va_A (va_pl L E) sz) s L τ E33 H34 k35 := ⟨W33, I33⟩
      have F33 : Fr L τ (inW [(0, 0), (9, 0), (39, 0)]) E E33 := F0_.trans (G33.mono (inW_mono (by decide)))
      rw [← hQ]
      exact en_i Z S33 F33 trivial dX9_piece_34
  · skip
    have tc7 := nu_eq c7
    have uc7 : (0 : Int32).toInt = 0 := rfl
    refine lv_aload_n hx hb dX9_piece_11 rfl (lv_at hl 0 rfl) ?_
    obtain ⟨v37, ev37, tv37⟩ : ∃ v : Int32, Int32.ofInt (1) = v ∧ v.toInt = 1 := ⟨_, rfl, by decide +kernel⟩
    refine lv_iconst hx hb dX9_piece_12 ev37 ?_
    refine tc_vi Z.1 Z.2.2.2.1 Z.2.2.2.2.1 Z.2.2.2.2.2 S3.1 S3.2 ha0 ta0 rfl rfl (k_X9_refuse l D cy S3.2 ha0 ta0 v37) (cwV 1 hts gX9_piece_X9_refuse rfl rfl rfl (by decide +kernel) ⟨Nat.le_of_ble_eq_true rfl, Nat.le_of_ble_eq_true rfl⟩) rfl hl.1 rfl (Nat.le_of_ble_eq_true rfl) dX9_piece_13 ⟨Nat.zero_le _, Nat.zero_le _⟩ (fun v41 E38 H39 k40 W38 I38 G38 p38 => ?_)
    obtain ⟨p38_0, p38_1⟩ := p38
    have S38 : Now D TB cy (va_A (va_pl L E) sz) s L τ E38 H39 k40 := ⟨W38, I38⟩
    have F38 : Fr L τ (inW [(0, 0), (9, 0), (39, 0)]) E E38 := F0_.trans (G38.mono (inW_mono (by decide)))
    rw [← hQ]
    exact en_i Z S38 F38 trivial dX9_piece_16

theorem dX9_sweep_0 : decode cX9_sweep 0 = .ok (.aload_n 0, 1) := by decide +kernel
theorem dX9_sweep_1 : decode cX9_sweep 1 = .ok (.getfield 54, 3) := by decide +kernel
theorem dX9_sweep_4 : decode cX9_sweep 4 = .ok (.getfield 144, 3) := by decide +kernel
theorem dX9_sweep_7 : decode cX9_sweep 7 = .ok (.istore_n 1, 1) := by decide +kernel
theorem dX9_sweep_8 : decode cX9_sweep 8 = .ok (.aload_n 0, 1) := by decide +kernel
theorem dX9_sweep_9 : decode cX9_sweep 9 = .ok (.getfield 54, 3) := by decide +kernel
theorem dX9_sweep_12 : decode cX9_sweep 12 = .ok (.iconst 0, 1) := by decide +kernel
theorem dX9_sweep_13 : decode cX9_sweep 13 = .ok (.putfield 144, 3) := by decide +kernel
theorem dX9_sweep_16 : decode cX9_sweep 16 = .ok (.iload_n 1, 1) := by decide +kernel
theorem dX9_sweep_17 : decode cX9_sweep 17 = .ok (.ireturn, 1) := by decide +kernel
set_option maxHeartbeats 4000000 in
set_option maxRecDepth 100000 in
theorem k_X9_sweep (l : Launch) (D : va_G) (cy : Nat → ClassId) {L : List Nat} {τ : Nat → Ro} {E : Ec} (hI : Inv TB cy L τ E) {a0 : Nat} (ha0 : a0 ∈ L) (ta0 : τ a0 = (0, 0)) : CtI l yX9_sweep wsX9_sweep { frames := 0, cells := 0, slots := 0, locals := 0 } D TB cy L τ E [.ref a0] (inW [(9, 0)]) (fun r E' => True) := by
  intro sz
  refine sta (cc := cX9_sweep) (maxL := 2) hI (by decide) rfl (Nat.le_of_ble_eq_true rfl) (fun p e s m args below meth c ls hsz Z S0 hl => ?_)
  have hx := Z.1.1
  have hb := Z.1.2.1
  have hts := Z.1.2.2.2.2
  have F0_ : Fr L τ (inW [(9, 0)]) E E := Fr.refl
  have hl : lv_has ls 2 [(0, .ref a0)] := hl
  generalize hQ : MQ below _ args s 0 0 _ = QQ
  refine lv_aload_n hx hb dX9_sweep_0 rfl (lv_at hl 0 rfl) ?_
  refine tr_getr Z.1 Z.2.2.2.1 S0.1 S0.2 ha0 ta0 rfl rfl (fun _ h => List.mem_cons_of_mem _ (List.mem_append_left _ (List.mem_append_right _ h))) 6 (by decide) rfl (hts _ (List.mem_of_getElem? (i := 1) rfl)) dX9_sweep_1 (fun q1 eq1 hq1 tq1 => ?_)
  have tq1 : τ q1 = (9, 0) := tq1
  refine tr_geti Z.1 Z.2.2.2.1 S0.1 S0.2 hq1 tq1 rfl rfl (fun _ h => List.mem_cons_of_mem _ (List.mem_append_right _ h)) 2 (by decide) rfl (hts _ (List.mem_of_getElem? (i := 2) rfl)) dX9_sweep_4 (fun v2 ev2 lv2 uv2 => ?_)
  refine lv_istore_n (lv' := [(1, .int v2), (0, .ref a0)]) hx hb dX9_sweep_7 rfl hl (by decide) rfl (fun l3 hl4 => ?_)
  refine lv_aload_n hx hb dX9_sweep_8 rfl (lv_at hl4 1 rfl) ?_
  refine tr_getr Z.1 Z.2.2.2.1 S0.1 S0.2 ha0 ta0 rfl rfl (fun _ h => List.mem_cons_of_mem _ (List.mem_append_left _ (List.mem_append_right _ h))) 6 (by decide) rfl (hts _ (List.mem_of_getElem? (i := 1) rfl)) dX9_sweep_9 (fun q5 eq5 hq5 tq5 => ?_)
  have tq5 : τ q5 = (9, 0) := tq5
  have uq5 : q1 = q5 := S0.2.2.2.2 _ hq1 _ hq5 (tq1.trans tq5.symm) (by rw [tq1]; rfl)
  subst uq5
  obtain ⟨v6, ev6, tv6⟩ : ∃ v : Int32, Int32.ofInt (0) = v ∧ v.toInt = 0 := ⟨_, rfl, by decide +kernel⟩
  refine lv_iconst hx hb dX9_sweep_12 ev6 ?_
  refine tr_puti Z.1 Z.2.2.2.1 S0.1 S0.2 hq1 tq1 rfl rfl (fun _ h => List.mem_cons_of_mem _ (List.mem_append_right _ h)) tyX0_ok nmX0 2 (by decide) rfl rfl rfl (hts _ (List.mem_of_getElem? (i := 2) rfl)) dX9_sweep_13 (by omega) (by omega) (fun E7 H8 k9 W7 I7 P7 => ?_)
  have S7 : Now D TB cy (va_A (va_pl L E) sz) s L τ E7 H8 k9 := ⟨W7, I7⟩
  have F7 : Fr L τ (inW [(9, 0)]) E E7 := Fr.put F0_ P7 tq1 rfl
  refine lv_iload_n hx hb dX9_sweep_16 rfl (lv_at hl4 0 rfl) ?_
  rw [← hQ]
  exact en_i Z S7 F7 trivial dX9_sweep_17

set_option maxRecDepth 20000 in
theorem ggX9_boards_X9_within : GoodIn wsX9_boards wsX9_within := goodIn_r _ [6] (by decide +kernel) (by decide +kernel)
set_option maxRecDepth 20000 in
theorem gX9_boards_X9_within : GoodIn wsX9_boards (va_wsS RX9 73 yX9_within wsX9_within) := goodIn_app (goodIn_of _ (by decide +kernel)) ggX9_boards_X9_within
set_option maxRecDepth 20000 in
theorem ggX9_boards_X9_refuse : GoodIn wsX9_boards wsX9_refuse := goodIn_r _ [10, 1, 34, 35, 36, 37, 38, 39, 40, 41, 42, 43, 44] (by decide +kernel) (by decide +kernel)
set_option maxRecDepth 20000 in
theorem gX9_boards_X9_refuse : GoodIn wsX9_boards (wsV RX9 153 RX9 yX9_refuse wsX9_refuse) := goodIn_app (goodIn_of _ (by decide +kernel)) ggX9_boards_X9_refuse
set_option maxRecDepth 20000 in
theorem ggX9_boards_X0_longest : GoodIn wsX9_boards wsX0_longest := goodIn_r _ [15, 16, 17, 18, 19, 20, 21, 45, 46, 47] (by decide +kernel) (by decide +kernel)
set_option maxRecDepth 20000 in
theorem gX9_boards_X0_longest : GoodIn wsX9_boards (wsV RX9 268 RX0 yX0_longest wsX0_longest) := goodIn_app (goodIn_of _ (by decide +kernel)) ggX9_boards_X0_longest
set_option maxRecDepth 20000 in
theorem ggX9_boards_X0_fewest : GoodIn wsX9_boards wsX0_fewest := goodIn_r _ [25, 16, 26, 27, 17, 28, 29, 20, 30, 31, 32, 14, 33, 45, 46, 47] (by decide +kernel) (by decide +kernel)
set_option maxRecDepth 20000 in
theorem gX9_boards_X0_fewest : GoodIn wsX9_boards (wsV RX9 271 RX0 yX0_fewest wsX0_fewest) := goodIn_app (goodIn_of _ (by decide +kernel)) ggX9_boards_X0_fewest
theorem dX9_boards_0 : decode cX9_boards 0 = .ok (.iload_n 1, 1) := by decide +kernel
theorem dX9_boards_1 : decode cX9_boards 1 = .ok (.iconst 1, 1) := by decide +kernel
theorem dX9_boards_2 : decode cX9_boards 2 = .ok (.sipush 10000, 3) := by decide +kernel
theorem dX9_boards_5 : decode cX9_boards 5 = .ok (.invokestatic 73, 3) := by decide +kernel
theorem dX9_boards_8 : decode cX9_boards 8 = .ok (.ifCond .ne 9, 3) := by decide +kernel
theorem dX9_boards_11 : decode cX9_boards 11 = .ok (.aload_n 0, 1) := by decide +kernel
theorem dX9_boards_12 : decode cX9_boards 12 = .ok (.iconst 1, 1) := by decide +kernel
theorem dX9_boards_13 : decode cX9_boards 13 = .ok (.invokevirtual 153, 3) := by decide +kernel
theorem dX9_boards_16 : decode cX9_boards 16 = .ok (.ireturn, 1) := by decide +kernel
theorem dX9_boards_17 : decode cX9_boards 17 = .ok (.aload_n 0, 1) := by decide +kernel
theorem dX9_boards_18 : decode cX9_boards 18 = .ok (.iconst 0, 1) := by decide +kernel
theorem dX9_boards_19 : decode cX9_boards 19 = .ok (.putfield 66, 3) := by decide +kernel
theorem dX9_boards_22 : decode cX9_boards 22 = .ok (.aload_n 0, 1) := by decide +kernel
theorem dX9_boards_23 : decode cX9_boards 23 = .ok (.getfield 54, 3) := by decide +kernel
theorem dX9_boards_26 : decode cX9_boards 26 = .ok (.invokevirtual 268, 3) := by decide +kernel
theorem dX9_boards_29 : decode cX9_boards 29 = .ok (.iload_n 1, 1) := by decide +kernel
theorem dX9_boards_30 : decode cX9_boards 30 = .ok (.if_icmp .le 8, 3) := by decide +kernel
theorem dX9_boards_33 : decode cX9_boards 33 = .ok (.bipush (-2), 2) := by decide +kernel
theorem dX9_boards_35 : decode cX9_boards 35 = .ok (.goto 11, 3) := by decide +kernel
theorem dX9_boards_38 : decode cX9_boards 38 = .ok (.aload_n 0, 1) := by decide +kernel
theorem dX9_boards_39 : decode cX9_boards 39 = .ok (.getfield 54, 3) := by decide +kernel
theorem dX9_boards_42 : decode cX9_boards 42 = .ok (.iload_n 1, 1) := by decide +kernel
theorem dX9_boards_43 : decode cX9_boards 43 = .ok (.invokevirtual 271, 3) := by decide +kernel
theorem dX9_boards_46 : decode cX9_boards 46 = .ok (.ireturn, 1) := by decide +kernel
set_option maxHeartbeats 4000000 in
set_option maxRecDepth 100000 in
theorem k_X9_boards (l : Launch) (D : va_G) (cy : Nat → ClassId) {L : List Nat} {τ : Nat → Ro} {E : Ec} (hI : Inv TB cy L τ E) {a0 : Nat} (ha0 : a0 ∈ L) (ta0 : τ a0 = (0, 0)) (a1 : Int32) : CtI l yX9_boards wsX9_boards { frames := 2, cells := 0, slots := 0, locals := 48 } D TB cy L τ E [.ref a0, .int a1] (inW [(0, 0), (31, 0)]) (fun r E' => True) := by
  intro sz
  refine sta (cc := cX9_boards) (maxL := 2) hI (by decide) rfl (Nat.le_of_ble_eq_true rfl) (fun p e s m args below meth c ls hsz Z S0 hl => ?_)
  have hx := Z.1.1
  have hb := Z.1.2.1
  have hts := Z.1.2.2.2.2
  have F0_ : Fr L τ (inW [(0, 0), (31, 0)]) E E := Fr.refl
  have hl : lv_has ls 2 [(0, .ref a0), (1, .int a1)] := hl
  generalize hQ : MQ below _ args s 0 0 _ = QQ
  refine lv_iload_n hx hb dX9_boards_0 rfl (lv_at hl 1 rfl) ?_
  obtain ⟨v1, ev1, tv1⟩ : ∃ v : Int32, Int32.ofInt (1) = v ∧ v.toInt = 1 := ⟨_, rfl, by decide +kernel⟩
  refine lv_iconst hx hb dX9_boards_1 ev1 ?_
  obtain ⟨v2, ev2, tv2⟩ : ∃ v : Int32, (Int16.ofInt (10000)).toInt32 = v ∧ v.toInt = 10000 := ⟨_, rfl, by decide +kernel⟩
  refine lv_sipush hx hb dX9_boards_2 ev2 ?_
  refine tc_si Z.1 Z.2.2.2.1 Z.2.2.2.2.1 Z.2.2.2.2.2 S0.1 (k_X9_within l D cy S0.2 a1 v1 v2) (va_cwS 3 hts gX9_boards_X9_within rfl rfl rfl (by decide +kernel) ⟨Nat.le_of_ble_eq_true rfl, Nat.le_of_ble_eq_true rfl⟩) rfl hl.1 rfl (Nat.le_of_ble_eq_true rfl) dX9_boards_5 ⟨Nat.zero_le _, Nat.zero_le _⟩ (fun v6 E3 H4 k5 W3 I3 G3 p3 => ?_)
  obtain ⟨q3, p3_0, p3_1, p3_2⟩ := p3
  have q3 := q3.symm
  subst q3
  have S3 : Now D TB cy (va_A (va_pl L E) sz) s L τ E H4 k5 := ⟨W3, I3⟩
  refine lv_if_ne (tgt := 17) hx hb dX9_boards_8 (by decide) (fun c7 => ?_) (fun c7 => ?_)
  · skip
    have tc7 := nu_ne c7
    have uc7 : (0 : Int32).toInt = 0 := rfl
    refine lv_aload_n hx hb dX9_boards_17 rfl (lv_at hl 0 rfl) ?_
    obtain ⟨v8, ev8, tv8⟩ : ∃ v : Int32, Int32.ofInt (0) = v ∧ v.toInt = 0 := ⟨_, rfl, by decide +kernel⟩
    refine lv_iconst hx hb dX9_boards_18 ev8 ?_
    refine tr_puti Z.1 Z.2.2.2.1 S3.1 S3.2 ha0 ta0 rfl rfl (fun _ h => List.mem_cons_of_mem _ (List.mem_append_left _ (List.mem_append_right _ h))) tyX9_ok nmX9 9 (by decide) rfl rfl rfl (hts _ (List.mem_of_getElem? (i := 1) rfl)) dX9_boards_19 (by have := fb_rng v8; omega) (by have := fb_rng v8; omega) (fun E9 H10 k11 W9 I9 P9 => ?_)
    have S9 : Now D TB cy (va_A (va_pl L E) sz) s L τ E9 H10 k11 := ⟨W9, I9⟩
    have F9 : Fr L τ (inW [(0, 0), (31, 0)]) E E9 := Fr.put F0_ P9 ta0 rfl
    refine lv_aload_n hx hb dX9_boards_22 rfl (lv_at hl 0 rfl) ?_
    refine tr_getr Z.1 Z.2.2.2.1 S9.1 S9.2 ha0 ta0 rfl rfl (fun _ h => List.mem_cons_of_mem _ (List.mem_append_left _ (List.mem_append_right _ h))) 6 (by decide) rfl (hts _ (List.mem_of_getElem? (i := 2) rfl)) dX9_boards_23 (fun q12 eq12 hq12 tq12 => ?_)
    have tq12 : τ q12 = (9, 0) := tq12
    refine tc_vi Z.1 Z.2.2.2.1 Z.2.2.2.2.1 Z.2.2.2.2.2 S9.1 S9.2 hq12 tq12 rfl rfl (k_X0_longest l D cy S9.2 hq12 tq12) (cwV 0 hts gX9_boards_X0_longest rfl rfl rfl (by decide +kernel) ⟨Nat.le_of_ble_eq_true rfl, Nat.le_of_ble_eq_true rfl⟩) rfl hl.1 rfl (Nat.le_of_ble_eq_true rfl) dX9_boards_26 ⟨Nat.zero_le _, Nat.zero_le _⟩ (fun v16 E13 H14 k15 W13 I13 G13 p13 => ?_)
    have q13 := p13
    have q13 := q13.symm
    subst q13
    have S13 : Now D TB cy (va_A (va_pl L E) sz) s L τ E9 H14 k15 := ⟨W13, I13⟩
    refine lv_iload_n hx hb dX9_boards_29 rfl (lv_at hl 1 rfl) ?_
    refine lv_icmp_le (tgt := 38) hx hb dX9_boards_30 (by decide) (fun c17 => ?_) (fun c17 => ?_)
    · skip
      have tc17 := nu_le c17
      refine lv_aload_n hx hb dX9_boards_38 rfl (lv_at hl 0 rfl) ?_
      refine tr_getr Z.1 Z.2.2.2.1 S13.1 S13.2 ha0 ta0 rfl rfl (fun _ h => List.mem_cons_of_mem _ (List.mem_append_left _ (List.mem_append_right _ h))) 6 (by decide) rfl (hts _ (List.mem_of_getElem? (i := 2) rfl)) dX9_boards_39 (fun q18 eq18 hq18 tq18 => ?_)
      have tq18 : τ q18 = (9, 0) := tq18
      have uq18 : q12 = q18 := S13.2.2.2.2 _ hq12 _ hq18 (tq12.trans tq18.symm) (by rw [tq12]; rfl)
      subst uq18
      refine lv_iload_n hx hb dX9_boards_42 rfl (lv_at hl 1 rfl) ?_
      refine tc_vi Z.1 Z.2.2.2.1 Z.2.2.2.2.1 Z.2.2.2.2.2 S13.1 S13.2 hq12 tq12 rfl rfl (k_X0_fewest l D cy S13.2 hq12 tq12 a1) (cwV 1 hts gX9_boards_X0_fewest rfl rfl rfl (by decide +kernel) ⟨Nat.le_of_ble_eq_true rfl, Nat.le_of_ble_eq_true rfl⟩) rfl hl.1 rfl (Nat.le_of_ble_eq_true rfl) dX9_boards_43 ⟨Nat.zero_le _, Nat.zero_le _⟩ (fun v22 E19 H20 k21 W19 I19 G19 p19 => ?_)
      have S19 : Now D TB cy (va_A (va_pl L E) sz) s L τ E19 H20 k21 := ⟨W19, I19⟩
      have F19 : Fr L τ (inW [(0, 0), (31, 0)]) E E19 := F9.trans (G19.mono (inW_mono (by decide)))
      rw [← hQ]
      exact en_i Z S19 F19 trivial dX9_boards_46
    · skip
      have tc17 := nu_nle c17
      obtain ⟨v23, ev23, tv23⟩ : ∃ v : Int32, (Int8.ofInt (-2)).toInt32 = v ∧ v.toInt = -2 := ⟨_, rfl, by decide +kernel⟩
      refine lv_bipush hx hb dX9_boards_33 ev23 ?_
      refine lv_goto (tgt := 46) hx hb dX9_boards_35 (by decide) ?_
      rw [← hQ]
      exact en_i Z S13 F9 trivial dX9_boards_46
  · skip
    have tc7 := nu_eq c7
    have uc7 : (0 : Int32).toInt = 0 := rfl
    refine lv_aload_n hx hb dX9_boards_11 rfl (lv_at hl 0 rfl) ?_
    obtain ⟨v24, ev24, tv24⟩ : ∃ v : Int32, Int32.ofInt (1) = v ∧ v.toInt = 1 := ⟨_, rfl, by decide +kernel⟩
    refine lv_iconst hx hb dX9_boards_12 ev24 ?_
    refine tc_vi Z.1 Z.2.2.2.1 Z.2.2.2.2.1 Z.2.2.2.2.2 S3.1 S3.2 ha0 ta0 rfl rfl (k_X9_refuse l D cy S3.2 ha0 ta0 v24) (cwV 1 hts gX9_boards_X9_refuse rfl rfl rfl (by decide +kernel) ⟨Nat.le_of_ble_eq_true rfl, Nat.le_of_ble_eq_true rfl⟩) rfl hl.1 rfl (Nat.le_of_ble_eq_true rfl) dX9_boards_13 ⟨Nat.zero_le _, Nat.zero_le _⟩ (fun v28 E25 H26 k27 W25 I25 G25 p25 => ?_)
    obtain ⟨p25_0, p25_1⟩ := p25
    have S25 : Now D TB cy (va_A (va_pl L E) sz) s L τ E25 H26 k27 := ⟨W25, I25⟩
    have F25 : Fr L τ (inW [(0, 0), (31, 0)]) E E25 := F0_.trans (G25.mono (inW_mono (by decide)))
    rw [← hQ]
    exact en_i Z S25 F25 trivial dX9_boards_16

set_option maxRecDepth 20000 in
theorem ggX9_alter_X9_within : GoodIn wsX9_alter wsX9_within := goodIn_r _ [7] (by decide +kernel) (by decide +kernel)
set_option maxRecDepth 20000 in
theorem gX9_alter_X9_within : GoodIn wsX9_alter (va_wsS RX9 73 yX9_within wsX9_within) := goodIn_app (goodIn_of _ (by decide +kernel)) ggX9_alter_X9_within
set_option maxRecDepth 20000 in
theorem ggX9_alter_X9_deny : GoodIn wsX9_alter wsX9_deny := goodIn_r _ [11, 2, 12, 13, 14, 15, 16, 17, 18, 19, 20, 21, 22] (by decide +kernel) (by decide +kernel)
set_option maxRecDepth 20000 in
theorem gX9_alter_X9_deny : GoodIn wsX9_alter (wsV RX9 77 RX9 yX9_deny wsX9_deny) := goodIn_app (goodIn_of _ (by decide +kernel)) ggX9_alter_X9_deny
theorem dX9_alter_0 : decode cX9_alter 0 = .ok (.iload_n 1, 1) := by decide +kernel
theorem dX9_alter_1 : decode cX9_alter 1 = .ok (.iconst 0, 1) := by decide +kernel
theorem dX9_alter_2 : decode cX9_alter 2 = .ok (.aload_n 0, 1) := by decide +kernel
theorem dX9_alter_3 : decode cX9_alter 3 = .ok (.getfield 62, 3) := by decide +kernel
theorem dX9_alter_6 : decode cX9_alter 6 = .ok (.iconst 1, 1) := by decide +kernel
theorem dX9_alter_7 : decode cX9_alter 7 = .ok (.isub, 1) := by decide +kernel
theorem dX9_alter_8 : decode cX9_alter 8 = .ok (.invokestatic 73, 3) := by decide +kernel
theorem dX9_alter_11 : decode cX9_alter 11 = .ok (.ifCond .ne 9, 3) := by decide +kernel
theorem dX9_alter_14 : decode cX9_alter 14 = .ok (.aload_n 0, 1) := by decide +kernel
theorem dX9_alter_15 : decode cX9_alter 15 = .ok (.iconst 4, 1) := by decide +kernel
theorem dX9_alter_16 : decode cX9_alter 16 = .ok (.invokevirtual 77, 3) := by decide +kernel
theorem dX9_alter_19 : decode cX9_alter 19 = .ok (.ireturn, 1) := by decide +kernel
theorem dX9_alter_20 : decode cX9_alter 20 = .ok (.aload_n 0, 1) := by decide +kernel
theorem dX9_alter_21 : decode cX9_alter 21 = .ok (.iconst 0, 1) := by decide +kernel
theorem dX9_alter_22 : decode cX9_alter 22 = .ok (.putfield 66, 3) := by decide +kernel
theorem dX9_alter_25 : decode cX9_alter 25 = .ok (.aload_n 0, 1) := by decide +kernel
theorem dX9_alter_26 : decode cX9_alter 26 = .ok (.getfield 58, 3) := by decide +kernel
theorem dX9_alter_29 : decode cX9_alter 29 = .ok (.iload_n 1, 1) := by decide +kernel
theorem dX9_alter_30 : decode cX9_alter 30 = .ok (.dup2, 1) := by decide +kernel
theorem dX9_alter_31 : decode cX9_alter 31 = .ok (.iaload, 1) := by decide +kernel
theorem dX9_alter_32 : decode cX9_alter 32 = .ok (.iload_n 2, 1) := by decide +kernel
theorem dX9_alter_33 : decode cX9_alter 33 = .ok (.ixor, 1) := by decide +kernel
theorem dX9_alter_34 : decode cX9_alter 34 = .ok (.iastore, 1) := by decide +kernel
theorem dX9_alter_35 : decode cX9_alter 35 = .ok (.iconst 1, 1) := by decide +kernel
theorem dX9_alter_36 : decode cX9_alter 36 = .ok (.ireturn, 1) := by decide +kernel
set_option maxHeartbeats 4000000 in
set_option maxRecDepth 100000 in
theorem k_X9_alter (l : Launch) (D : va_G) (cy : Nat → ClassId) {L : List Nat} {τ : Nat → Ro} {E : Ec} (hI : Inv TB cy L τ E) {a0 : Nat} (ha0 : a0 ∈ L) (ta0 : τ a0 = (0, 0)) (a1 : Int32) (a2 : Int32) : CtI l yX9_alter wsX9_alter { frames := 1, cells := 0, slots := 0, locals := 22 } D TB cy L τ E [.ref a0, .int a1, .int a2] (inW [(0, 0), (28, 0)]) (fun r E' => 0 ≤ r.toInt ∧ r.toInt ≤ 1) := by
  intro sz
  refine sta (cc := cX9_alter) (maxL := 3) hI (by decide) rfl (Nat.le_of_ble_eq_true rfl) (fun p e s m args below meth c ls hsz Z S0 hl => ?_)
  have hx := Z.1.1
  have hb := Z.1.2.1
  have hts := Z.1.2.2.2.2
  have F0_ : Fr L τ (inW [(0, 0), (28, 0)]) E E := Fr.refl
  have hl : lv_has ls 3 [(0, .ref a0), (1, .int a1), (2, .int a2)] := hl
  generalize hQ : MQ below _ args s 0 0 _ = QQ
  refine lv_iload_n hx hb dX9_alter_0 rfl (lv_at hl 1 rfl) ?_
  obtain ⟨v1, ev1, tv1⟩ : ∃ v : Int32, Int32.ofInt (0) = v ∧ v.toInt = 0 := ⟨_, rfl, by decide +kernel⟩
  refine lv_iconst hx hb dX9_alter_1 ev1 ?_
  refine lv_aload_n hx hb dX9_alter_2 rfl (lv_at hl 0 rfl) ?_
  refine tr_geti Z.1 Z.2.2.2.1 S0.1 S0.2 ha0 ta0 rfl rfl (fun _ h => List.mem_cons_of_mem _ (List.mem_append_right _ h)) 8 (by decide) rfl (hts _ (List.mem_of_getElem? (i := 1) rfl)) dX9_alter_3 (fun v2 ev2 lv2 uv2 => ?_)
  obtain ⟨v3, ev3, tv3⟩ : ∃ v : Int32, Int32.ofInt (1) = v ∧ v.toInt = 1 := ⟨_, rfl, by decide +kernel⟩
  refine lv_iconst hx hb dX9_alter_6 ev3 ?_
  refine lv_isub hx hb dX9_alter_7 ?_
  refine lv_topi (fun v4 ev4 => ?_)
  have tv4 := nu_sub ev4 (by omega) (by omega)
  refine tc_si Z.1 Z.2.2.2.1 Z.2.2.2.2.1 Z.2.2.2.2.2 S0.1 (k_X9_within l D cy S0.2 a1 v1 v4) (va_cwS 3 hts gX9_alter_X9_within rfl rfl rfl (by decide +kernel) ⟨Nat.le_of_ble_eq_true rfl, Nat.le_of_ble_eq_true rfl⟩) rfl hl.1 rfl (Nat.le_of_ble_eq_true rfl) dX9_alter_8 ⟨Nat.zero_le _, Nat.zero_le _⟩ (fun v8 E5 H6 k7 W5 I5 G5 p5 => ?_)
  obtain ⟨q5, p5_0, p5_1, p5_2⟩ := p5
  have q5 := q5.symm
  subst q5
  have S5 : Now D TB cy (va_A (va_pl L E) sz) s L τ E H6 k7 := ⟨W5, I5⟩
  refine lv_if_ne (tgt := 20) hx hb dX9_alter_11 (by decide) (fun c9 => ?_) (fun c9 => ?_)
  · skip
    have tc9 := nu_ne c9
    have uc9 : (0 : Int32).toInt = 0 := rfl
    refine lv_aload_n hx hb dX9_alter_20 rfl (lv_at hl 0 rfl) ?_
    obtain ⟨v10, ev10, tv10⟩ : ∃ v : Int32, Int32.ofInt (0) = v ∧ v.toInt = 0 := ⟨_, rfl, by decide +kernel⟩
    refine lv_iconst hx hb dX9_alter_21 ev10 ?_
    refine tr_puti Z.1 Z.2.2.2.1 S5.1 S5.2 ha0 ta0 rfl rfl (fun _ h => List.mem_cons_of_mem _ (List.mem_append_right _ h)) tyX9_ok nmX9 9 (by decide) rfl rfl rfl (hts _ (List.mem_of_getElem? (i := 2) rfl)) dX9_alter_22 (by have := fb_rng v10; omega) (by have := fb_rng v10; omega) (fun E11 H12 k13 W11 I11 P11 => ?_)
    have S11 : Now D TB cy (va_A (va_pl L E) sz) s L τ E11 H12 k13 := ⟨W11, I11⟩
    have F11 : Fr L τ (inW [(0, 0), (28, 0)]) E E11 := Fr.put F0_ P11 ta0 rfl
    refine lv_aload_n hx hb dX9_alter_25 rfl (lv_at hl 0 rfl) ?_
    refine tr_getr Z.1 Z.2.2.2.1 S11.1 S11.2 ha0 ta0 rfl rfl (fun _ h => List.mem_cons_of_mem _ (List.mem_append_right _ h)) 7 (by decide) rfl (hts _ (List.mem_of_getElem? (i := 3) rfl)) dX9_alter_26 (fun q14 eq14 hq14 tq14 => ?_)
    have tq14 : τ q14 = (28, 0) := tq14
    refine lv_iload_n hx hb dX9_alter_29 rfl (lv_at hl 1 rfl) ?_
    refine lv_dup2_11 hx hb dX9_alter_30 rfl rfl ?_
    refine tr_iald Z.1 Z.2.2.2.1 S11.1 S11.2 hq14 tq14 rfl (by omega) (by omega) dX9_alter_31 (fun v15 ev15 lv15 uv15 => ?_)
    refine lv_iload_n hx hb dX9_alter_32 rfl (lv_at hl 2 rfl) ?_
    refine lv_ixor hx hb dX9_alter_33 ?_
    refine lv_topi (fun v16 ev16 => ?_)
    refine tr_iast Z.1 Z.2.2.2.1 S11.1 S11.2 hq14 tq14 rfl (by omega) (by omega) (by have := fb_rng v16; omega) (by have := fb_rng v16; omega) dX9_alter_34 (fun E17 H18 k19 W17 I17 P17 => ?_)
    have S17 : Now D TB cy (va_A (va_pl L E) sz) s L τ E17 H18 k19 := ⟨W17, I17⟩
    have F17 : Fr L τ (inW [(0, 0), (28, 0)]) E E17 := Fr.set F11 P17 tq14 rfl
    obtain ⟨v20, ev20, tv20⟩ : ∃ v : Int32, Int32.ofInt (1) = v ∧ v.toInt = 1 := ⟨_, rfl, by decide +kernel⟩
    refine lv_iconst hx hb dX9_alter_35 ev20 ?_
    rw [← hQ]
    exact en_z Z S17 F17 (zo v20 (by omega)) ⟨(by omega), (by omega)⟩ dX9_alter_36
  · skip
    have tc9 := nu_eq c9
    have uc9 : (0 : Int32).toInt = 0 := rfl
    refine lv_aload_n hx hb dX9_alter_14 rfl (lv_at hl 0 rfl) ?_
    obtain ⟨v21, ev21, tv21⟩ : ∃ v : Int32, Int32.ofInt (4) = v ∧ v.toInt = 4 := ⟨_, rfl, by decide +kernel⟩
    refine lv_iconst hx hb dX9_alter_15 ev21 ?_
    refine tc_vi Z.1 Z.2.2.2.1 Z.2.2.2.2.1 Z.2.2.2.2.2 S5.1 S5.2 ha0 ta0 rfl rfl (k_X9_deny l D cy S5.2 ha0 ta0 v21) (cwV 1 hts gX9_alter_X9_deny rfl rfl rfl (by decide +kernel) ⟨Nat.le_of_ble_eq_true rfl, Nat.le_of_ble_eq_true rfl⟩) rfl hl.1 rfl (Nat.le_of_ble_eq_true rfl) dX9_alter_16 ⟨Nat.zero_le _, Nat.zero_le _⟩ (fun v25 E22 H23 k24 W22 I22 G22 p22 => ?_)
    obtain ⟨p22_0, p22_1⟩ := p22
    have S22 : Now D TB cy (va_A (va_pl L E) sz) s L τ E22 H23 k24 := ⟨W22, I22⟩
    have F22 : Fr L τ (inW [(0, 0), (28, 0)]) E E22 := F0_.trans (G22.mono (inW_mono (by decide)))
    rw [← hQ]
    exact en_z Z S22 F22 (zo v25 (by omega)) ⟨(by omega), (by omega)⟩ dX9_alter_19

theorem dX9_trouble_0 : decode cX9_trouble 0 = .ok (.aload_n 0, 1) := by decide +kernel
theorem dX9_trouble_1 : decode cX9_trouble 1 = .ok (.getfield 66, 3) := by decide +kernel
theorem dX9_trouble_4 : decode cX9_trouble 4 = .ok (.ireturn, 1) := by decide +kernel
set_option maxHeartbeats 4000000 in
set_option maxRecDepth 100000 in
theorem k_X9_trouble (l : Launch) (D : va_G) (cy : Nat → ClassId) {L : List Nat} {τ : Nat → Ro} {E : Ec} (hI : Inv TB cy L τ E) {a0 : Nat} (ha0 : a0 ∈ L) (ta0 : τ a0 = (0, 0)) : CtI l yX9_trouble wsX9_trouble { frames := 0, cells := 0, slots := 0, locals := 0 } D TB cy L τ E [.ref a0] (inW []) (fun r E' => E' = E) := by
  intro sz
  refine sta (cc := cX9_trouble) (maxL := 1) hI (by decide) rfl (Nat.le_of_ble_eq_true rfl) (fun p e s m args below meth c ls hsz Z S0 hl => ?_)
  have hx := Z.1.1
  have hb := Z.1.2.1
  have hts := Z.1.2.2.2.2
  have F0_ : Fr L τ (inW []) E E := Fr.refl
  have hl : lv_has ls 1 [(0, .ref a0)] := hl
  generalize hQ : MQ below _ args s 0 0 _ = QQ
  refine lv_aload_n hx hb dX9_trouble_0 rfl (lv_at hl 0 rfl) ?_
  refine tr_geti Z.1 Z.2.2.2.1 S0.1 S0.2 ha0 ta0 rfl rfl (fun _ h => List.mem_cons_of_mem _ (List.mem_append_right _ h)) 9 (by decide) rfl (hts _ (List.mem_of_getElem? (i := 1) rfl)) dX9_trouble_1 (fun v1 ev1 lv1 uv1 => ?_)
  rw [← hQ]
  exact en_i Z S0 F0_ rfl dX9_trouble_4

theorem dX9_where_0 : decode cX9_where 0 = .ok (.aload_n 0, 1) := by decide +kernel
theorem dX9_where_1 : decode cX9_where 1 = .ok (.getfield 66, 3) := by decide +kernel
theorem dX9_where_4 : decode cX9_where 4 = .ok (.iconst 2, 1) := by decide +kernel
theorem dX9_where_5 : decode cX9_where 5 = .ok (.if_icmp .ne 13, 3) := by decide +kernel
theorem dX9_where_8 : decode cX9_where 8 = .ok (.aload_n 0, 1) := by decide +kernel
theorem dX9_where_9 : decode cX9_where 9 = .ok (.getfield 40, 3) := by decide +kernel
theorem dX9_where_12 : decode cX9_where 12 = .ok (.getfield 288, 3) := by decide +kernel
theorem dX9_where_15 : decode cX9_where 15 = .ok (.goto 4, 3) := by decide +kernel
theorem dX9_where_18 : decode cX9_where 18 = .ok (.iconst (-1), 1) := by decide +kernel
theorem dX9_where_19 : decode cX9_where 19 = .ok (.ireturn, 1) := by decide +kernel
set_option maxHeartbeats 4000000 in
set_option maxRecDepth 100000 in
theorem k_X9_where (l : Launch) (D : va_G) (cy : Nat → ClassId) {L : List Nat} {τ : Nat → Ro} {E : Ec} (hI : Inv TB cy L τ E) {a0 : Nat} (ha0 : a0 ∈ L) (ta0 : τ a0 = (0, 0)) : CtI l yX9_where wsX9_where { frames := 0, cells := 0, slots := 0, locals := 0 } D TB cy L τ E [.ref a0] (inW []) (fun r E' => E' = E) := by
  intro sz
  refine sta (cc := cX9_where) (maxL := 1) hI (by decide) rfl (Nat.le_of_ble_eq_true rfl) (fun p e s m args below meth c ls hsz Z S0 hl => ?_)
  have hx := Z.1.1
  have hb := Z.1.2.1
  have hts := Z.1.2.2.2.2
  have F0_ : Fr L τ (inW []) E E := Fr.refl
  have hl : lv_has ls 1 [(0, .ref a0)] := hl
  generalize hQ : MQ below _ args s 0 0 _ = QQ
  refine lv_aload_n hx hb dX9_where_0 rfl (lv_at hl 0 rfl) ?_
  refine tr_geti Z.1 Z.2.2.2.1 S0.1 S0.2 ha0 ta0 rfl rfl (fun _ h => List.mem_cons_of_mem _ (List.mem_append_left _ (List.mem_append_right _ h))) 9 (by decide) rfl (hts _ (List.mem_of_getElem? (i := 1) rfl)) dX9_where_1 (fun v1 ev1 lv1 uv1 => ?_)
  obtain ⟨v2, ev2, tv2⟩ : ∃ v : Int32, Int32.ofInt (2) = v ∧ v.toInt = 2 := ⟨_, rfl, by decide +kernel⟩
  refine lv_iconst hx hb dX9_where_4 ev2 ?_
  refine lv_icmp_ne (tgt := 18) hx hb dX9_where_5 (by decide) (fun c3 => ?_) (fun c3 => ?_)
  · skip
    have tc3 := nu_ne c3
    obtain ⟨v4, ev4, tv4⟩ : ∃ v : Int32, Int32.ofInt (-1) = v ∧ v.toInt = -1 := ⟨_, rfl, by decide +kernel⟩
    refine lv_iconst hx hb dX9_where_18 ev4 ?_
    rw [← hQ]
    exact en_i Z S0 F0_ rfl dX9_where_19
  · skip
    have tc3 := nu_eq c3
    refine lv_aload_n hx hb dX9_where_8 rfl (lv_at hl 0 rfl) ?_
    refine tr_getr Z.1 Z.2.2.2.1 S0.1 S0.2 ha0 ta0 rfl rfl (fun _ h => List.mem_cons_of_mem _ (List.mem_append_left _ (List.mem_append_right _ h))) 4 (by decide) rfl (hts _ (List.mem_of_getElem? (i := 2) rfl)) dX9_where_9 (fun q5 eq5 hq5 tq5 => ?_)
    have tq5 : τ q5 = (7, 0) := tq5
    refine tr_geti Z.1 Z.2.2.2.1 S0.1 S0.2 hq5 tq5 rfl rfl (fun _ h => List.mem_cons_of_mem _ (List.mem_append_right _ h)) 5 (by decide) rfl (hts _ (List.mem_of_getElem? (i := 3) rfl)) dX9_where_12 (fun v6 ev6 lv6 uv6 => ?_)
    refine lv_goto (tgt := 19) hx hb dX9_where_15 (by decide) ?_
    rw [← hQ]
    exact en_i Z S0 F0_ rfl dX9_where_19

