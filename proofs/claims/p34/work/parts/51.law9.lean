set_option maxRecDepth 20000 in
theorem ggX9_law_X9_within : GoodIn wsX9_law wsX9_within := goodIn_r _ [9] (by decide +kernel) (by decide +kernel)
set_option maxRecDepth 20000 in
theorem gX9_law_X9_within : GoodIn wsX9_law (va_wsS RX9 73 yX9_within wsX9_within) := goodIn_app (goodIn_of _ (by decide +kernel)) ggX9_law_X9_within
set_option maxRecDepth 20000 in
theorem ggX9_law_X9_refuse : GoodIn wsX9_law wsX9_refuse := goodIn_r _ [13, 14, 232, 233, 234, 235, 236, 237, 238, 239, 240, 241, 242] (by decide +kernel) (by decide +kernel)
set_option maxRecDepth 20000 in
theorem gX9_law_X9_refuse : GoodIn wsX9_law (wsV RX9 153 RX9 yX9_refuse wsX9_refuse) := goodIn_app (goodIn_of _ (by decide +kernel)) ggX9_law_X9_refuse
set_option maxRecDepth 20000 in
theorem ggX9_law_X5_read : GoodIn wsX9_law wsX5_read := goodIn_r _ [19, 20, 21, 22, 23, 24, 25, 26, 27, 28, 29, 30, 31, 32, 33, 34, 35, 36, 37, 18, 38, 39, 40, 41, 42, 43, 44, 45, 46, 47, 48, 49, 50, 51, 52, 53, 54, 55, 56, 57, 58, 59, 60, 61, 62, 63, 64, 65, 66, 67, 68, 69, 70, 71, 72, 73, 74, 75, 76, 77, 78, 79, 80, 81, 82, 83, 84, 85, 86, 87, 88, 89, 90, 91, 92, 93, 94, 95, 96, 97, 98, 99, 100, 101, 102, 103, 104, 105, 106, 107, 108, 109, 110, 111, 112, 113, 114, 115, 116, 117, 118, 119, 120, 121, 122, 123, 124, 125, 126, 127, 128, 129, 130, 131, 132, 133, 134, 135, 136, 137, 138, 139, 140, 141, 142, 143, 144, 145, 146, 147, 148, 149, 150, 151, 152, 153, 154, 155, 156, 157, 158, 159, 160, 161, 162, 163, 164, 165, 166, 167, 168, 169, 170, 171, 172, 173, 174, 175, 176, 177, 178, 179, 180, 181, 182, 183, 184, 185, 186, 187, 188, 189, 190, 243, 244, 245, 246, 247, 248, 249, 250, 251, 252, 253, 254, 255, 256, 273, 274, 275, 276, 277, 278] (by decide +kernel) (by decide +kernel)
set_option maxRecDepth 20000 in
theorem gX9_law_X5_read : GoodIn wsX9_law (wsV RX9 180 RX5 yX5_read wsX5_read) := goodIn_app (goodIn_of _ (by decide +kernel)) ggX9_law_X5_read
set_option maxRecDepth 20000 in
theorem ggX9_law_X9_beginAct : GoodIn wsX9_law wsX9_beginAct := goodIn_r _ [194, 14, 195, 196, 197, 8, 198, 199, 3, 200, 201, 202, 203, 204, 205, 206, 207, 208, 209, 22, 23, 24, 210, 211, 212, 213, 214, 215, 216, 217, 218, 219, 220, 221, 222, 223, 224, 188, 189, 190, 225, 226, 227, 228, 229, 230, 231, 232, 233, 234, 235, 236, 237, 238, 239, 240, 241, 242, 279, 280, 281, 257, 258, 259, 260, 261, 262, 263, 264, 265, 266, 267, 268, 269, 270, 271, 272] (by decide +kernel) (by decide +kernel)
set_option maxRecDepth 20000 in
theorem gX9_law_X9_beginAct : GoodIn wsX9_law (wsV RX9 81 RX9 yX9_beginAct wsX9_beginAct) := goodIn_app (goodIn_of _ (by decide +kernel)) ggX9_law_X9_beginAct
theorem dX9_law_0 : decode cX9_law 0 = .ok (.iload_n 1, 1) := by decide +kernel
theorem dX9_law_1 : decode cX9_law 1 = .ok (.iconst 0, 1) := by decide +kernel
theorem dX9_law_2 : decode cX9_law 2 = .ok (.aload_n 0, 1) := by decide +kernel
theorem dX9_law_3 : decode cX9_law 3 = .ok (.getfield 40, 3) := by decide +kernel
theorem dX9_law_6 : decode cX9_law 6 = .ok (.getfield 177, 3) := by decide +kernel
theorem dX9_law_9 : decode cX9_law 9 = .ok (.invokestatic 73, 3) := by decide +kernel
theorem dX9_law_12 : decode cX9_law 12 = .ok (.ifCond .ne 9, 3) := by decide +kernel
theorem dX9_law_15 : decode cX9_law 15 = .ok (.aload_n 0, 1) := by decide +kernel
theorem dX9_law_16 : decode cX9_law 16 = .ok (.iconst 1, 1) := by decide +kernel
theorem dX9_law_17 : decode cX9_law 17 = .ok (.invokevirtual 153, 3) := by decide +kernel
theorem dX9_law_20 : decode cX9_law 20 = .ok (.ireturn, 1) := by decide +kernel
theorem dX9_law_21 : decode cX9_law 21 = .ok (.aload_n 0, 1) := by decide +kernel
theorem dX9_law_22 : decode cX9_law 22 = .ok (.getfield 40, 3) := by decide +kernel
theorem dX9_law_25 : decode cX9_law 25 = .ok (.iload_n 1, 1) := by decide +kernel
theorem dX9_law_26 : decode cX9_law 26 = .ok (.invokevirtual 180, 3) := by decide +kernel
theorem dX9_law_29 : decode cX9_law 29 = .ok (.astore_n 2, 1) := by decide +kernel
theorem dX9_law_30 : decode cX9_law 30 = .ok (.aload_n 2, 1) := by decide +kernel
theorem dX9_law_31 : decode cX9_law 31 = .ok (.ifnonnull 9, 3) := by decide +kernel
theorem dX9_law_34 : decode cX9_law 34 = .ok (.aload_n 0, 1) := by decide +kernel
theorem dX9_law_35 : decode cX9_law 35 = .ok (.iconst 2, 1) := by decide +kernel
theorem dX9_law_36 : decode cX9_law 36 = .ok (.invokevirtual 153, 3) := by decide +kernel
theorem dX9_law_39 : decode cX9_law 39 = .ok (.ireturn, 1) := by decide +kernel
theorem dX9_law_40 : decode cX9_law 40 = .ok (.aload_n 0, 1) := by decide +kernel
theorem dX9_law_41 : decode cX9_law 41 = .ok (.getfield 10, 3) := by decide +kernel
theorem dX9_law_44 : decode cX9_law 44 = .ok (.getfield 128, 3) := by decide +kernel
theorem dX9_law_47 : decode cX9_law 47 = .ok (.bipush 8, 2) := by decide +kernel
theorem dX9_law_49 : decode cX9_law 49 = .ok (.if_icmp .lt 9, 3) := by decide +kernel
theorem dX9_law_52 : decode cX9_law 52 = .ok (.aload_n 0, 1) := by decide +kernel
theorem dX9_law_53 : decode cX9_law 53 = .ok (.iconst 3, 1) := by decide +kernel
theorem dX9_law_54 : decode cX9_law 54 = .ok (.invokevirtual 153, 3) := by decide +kernel
theorem dX9_law_57 : decode cX9_law 57 = .ok (.ireturn, 1) := by decide +kernel
theorem dX9_law_58 : decode cX9_law 58 = .ok (.aload_n 0, 1) := by decide +kernel
theorem dX9_law_59 : decode cX9_law 59 = .ok (.invokevirtual 81, 3) := by decide +kernel
theorem dX9_law_62 : decode cX9_law 62 = .ok (.aload_n 0, 1) := by decide +kernel
theorem dX9_law_63 : decode cX9_law 63 = .ok (.getfield 10, 3) := by decide +kernel
theorem dX9_law_66 : decode cX9_law 66 = .ok (.getfield 184, 3) := by decide +kernel
theorem dX9_law_69 : decode cX9_law 69 = .ok (.aload_n 0, 1) := by decide +kernel
theorem dX9_law_70 : decode cX9_law 70 = .ok (.getfield 10, 3) := by decide +kernel
theorem dX9_law_73 : decode cX9_law 73 = .ok (.getfield 128, 3) := by decide +kernel
theorem dX9_law_76 : decode cX9_law 76 = .ok (.aload_n 2, 1) := by decide +kernel
theorem dX9_law_77 : decode cX9_law 77 = .ok (.aastore, 1) := by decide +kernel
theorem dX9_law_78 : decode cX9_law 78 = .ok (.aload_n 0, 1) := by decide +kernel
theorem dX9_law_79 : decode cX9_law 79 = .ok (.getfield 10, 3) := by decide +kernel
theorem dX9_law_82 : decode cX9_law 82 = .ok (.dup, 1) := by decide +kernel
theorem dX9_law_83 : decode cX9_law 83 = .ok (.getfield 128, 3) := by decide +kernel
theorem dX9_law_86 : decode cX9_law 86 = .ok (.iconst 1, 1) := by decide +kernel
theorem dX9_law_87 : decode cX9_law 87 = .ok (.iadd, 1) := by decide +kernel
theorem dX9_law_88 : decode cX9_law 88 = .ok (.putfield 128, 3) := by decide +kernel
theorem dX9_law_91 : decode cX9_law 91 = .ok (.aload_n 0, 1) := by decide +kernel
theorem dX9_law_92 : decode cX9_law 92 = .ok (.getfield 10, 3) := by decide +kernel
theorem dX9_law_95 : decode cX9_law 95 = .ok (.getfield 128, 3) := by decide +kernel
theorem dX9_law_98 : decode cX9_law 98 = .ok (.iconst 1, 1) := by decide +kernel
theorem dX9_law_99 : decode cX9_law 99 = .ok (.isub, 1) := by decide +kernel
theorem dX9_law_100 : decode cX9_law 100 = .ok (.ireturn, 1) := by decide +kernel
set_option maxHeartbeats 4000000 in
set_option maxRecDepth 100000 in
theorem k_X9_law (l : Launch) (D : va_G) (cy : Nat → ClassId) {L : List Nat} {τ : Nat → Ro} {E : Ec} (hI : Inv TB cy L τ E) {G : Sg} {a0 : Nat} (ha0 : a0 ∈ L) (ta0 : τ a0 = (0, 0)) (a1 : Int32) (hraw : ∀ b ∈ L, τ b ≠ (210, 0)) : CtL1i G l yX9_law wsX9_law { frames := 11, cells := 5, slots := 262, locals := 248 } D cy L τ E [.ref a0, .int a1] a0 (inW [(1, 1), (20, 1), (21, 1), (22, 1), (23, 1), (24, 1), (25, 1), (26, 1), (27, 1), (4, 0), (0, 0), (1, 0), (20, 0), (21, 0), (22, 0), (23, 0), (24, 0), (25, 0), (26, 0), (27, 0), (7, 0), (34, 0), (35, 0), (36, 0), (33, 0)]) 5 262 (fun v L' τ' E' => τ' a0 = (0, 0) ∧ -1 ≤ v.toInt ∧ v.toInt ≤ 7) := by
  intro sz
  refine staL (cc := cX9_law) (maxL := 3) hI (by decide) rfl (Nat.le_of_ble_eq_true rfl) (fun p e s m args below meth c ls hsz hnm Z SZ S0 hl => ?_)
  have hx := Z.1.1
  have hb := Z.1.2.1
  have hts := Z.1.2.2.2.2
  have F0_ : Fr L τ (inW [(1, 1), (20, 1), (21, 1), (22, 1), (23, 1), (24, 1), (25, 1), (26, 1), (27, 1), (4, 0), (0, 0), (1, 0), (20, 0), (21, 0), (22, 0), (23, 0), (24, 0), (25, 0), (26, 0), (27, 0), (7, 0), (34, 0), (35, 0), (36, 0), (33, 0)]) E E := Fr.refl
  have hl : lv_has ls 3 [(0, .ref a0), (1, .int a1)] := hl
  generalize hQ : MQ below _ args s 5 262 _ = QQ
  refine lv_iload_n hx hb dX9_law_0 rfl (lv_at hl 1 rfl) ?_
  obtain ⟨v1, ev1, tv1⟩ : ∃ v : Int32, Int32.ofInt (0) = v ∧ v.toInt = 0 := ⟨_, rfl, by decide +kernel⟩
  refine lv_iconst hx hb dX9_law_1 ev1 ?_
  refine lv_aload_n hx hb dX9_law_2 rfl (lv_at hl 0 rfl) ?_
  refine tr_getr Z.1 Z.2.2.2.1 S0.1 S0.2 ha0 ta0 rfl rfl (fun _ h => List.mem_cons_of_mem _ (List.mem_append_left _ (List.mem_append_left _ (List.mem_append_left _ (List.mem_append_left _ (List.mem_append_right _ h)))))) 4 (by decide) rfl (hts _ (List.mem_of_getElem? (i := 1) rfl)) dX9_law_3 (fun q2 eq2 hq2 tq2 => ?_)
  have tq2 : τ q2 = (7, 0) := tq2
  refine tr_geti Z.1 Z.2.2.2.1 S0.1 S0.2 hq2 tq2 rfl rfl (fun _ h => List.mem_cons_of_mem _ (List.mem_append_left _ (List.mem_append_left _ (List.mem_append_left _ (List.mem_append_right _ h))))) 1 (by decide) rfl (hts _ (List.mem_of_getElem? (i := 2) rfl)) dX9_law_6 (fun v3 ev3 lv3 uv3 => ?_)
  refine tc_si Z.1 Z.2.2.2.1 Z.2.2.2.2.1 Z.2.2.2.2.2 S0.1 (k_X9_within l D cy S0.2 a1 v1 v3) (va_cwS 3 hts gX9_law_X9_within rfl rfl rfl (by decide +kernel) ⟨Nat.le_of_ble_eq_true rfl, Nat.le_of_ble_eq_true rfl⟩) rfl hl.1 rfl (Nat.le_of_ble_eq_true rfl) dX9_law_9 ⟨Nat.zero_le _, Nat.zero_le _⟩ (fun v7 E4 H5 k6 W4 I4 G4 p4 => ?_)
  obtain ⟨q4, p4_0, p4_1, p4_2⟩ := p4
  have q4 := q4.symm
  subst q4
  have S4 : Now D TB cy (va_A (va_pl L E) sz) s L τ E H5 k6 := ⟨W4, I4⟩
  refine lv_if_ne (tgt := 21) hx hb dX9_law_12 (by decide) (fun c8 => ?_) (fun c8 => ?_)
  · skip
    have tc8 := nu_ne c8
    have uc8 : (0 : Int32).toInt = 0 := rfl
    refine lv_aload_n hx hb dX9_law_21 rfl (lv_at hl 0 rfl) ?_
    refine tr_getr Z.1 Z.2.2.2.1 S4.1 S4.2 ha0 ta0 rfl rfl (fun _ h => List.mem_cons_of_mem _ (List.mem_append_left _ (List.mem_append_left _ (List.mem_append_left _ (List.mem_append_left _ (List.mem_append_right _ h)))))) 4 (by decide) rfl (hts _ (List.mem_of_getElem? (i := 1) rfl)) dX9_law_22 (fun q9 eq9 hq9 tq9 => ?_)
    have tq9 : τ q9 = (7, 0) := tq9
    have uq9 : q2 = q9 := S4.2.2.2.2 _ hq2 _ hq9 (tq2.trans tq9.symm) (by rw [tq2]; rfl)
    subst uq9
    refine lv_iload_n hx hb dX9_law_25 rfl (lv_at hl 1 rfl) ?_
    obtain ⟨qe, hqe, tqe⟩ := ref_of (k := 10) S4.2 hq2 tq2 rfl rfl
    have tqe : τ qe = (33, 0) := tqe
    obtain ⟨qs, hqs, tqs⟩ := ref_of (k := 13) S4.2 hq2 tq2 rfl rfl
    have tqs : τ qs = (36, 0) := tqs
    refine tc_Lq Z.1 Z.2.2.2.1 Z.2.2.2.2.1 Z.2.2.2.2.2 SZ S4 hq2 tq2 rfl rfl (k_X5_read l D cy S4.2 hq2 tq2 a1 (by omega) hqe tqe hqs tqs hraw) (cwV 1 hts gX9_law_X5_read rfl rfl rfl (by decide +kernel) ⟨Nat.le_of_ble_eq_true rfl, Nat.le_of_ble_eq_true rfl⟩) rfl hl.1 rfl (Nat.le_of_ble_eq_true rfl) dX9_law_26 ⟨Nat.le_of_ble_eq_true rfl, Nat.le_of_ble_eq_true rfl⟩ (fun v1 L τ E H1 k1 S1 G1 p1 => ?_)
    obtain ⟨p1a, p1b, p1c⟩ := p1
    have GG := fun (E9 : Ec) (h : Fr L τ (inW [(1, 1), (20, 1), (21, 1), (22, 1), (23, 1), (24, 1), (25, 1), (26, 1), (27, 1), (4, 0), (0, 0), (1, 0), (20, 0), (21, 0), (22, 0), (23, 0), (24, 0), (25, 0), (26, 0), (27, 0), (7, 0), (34, 0), (35, 0), (36, 0), (33, 0)]) E E9) => GL.cont (y := a0) F0_ G1 p1a tq2 rfl (inW_mono (by decide)) h
    have ta0 : τ a0 = (0, 0) := (G1.2.1 a0 ha0 (ne_ro ta0 tq2 (by decide))).trans ta0
    have ha0 : a0 ∈ L := G1.1 _ ha0
    have F0_ : Fr L τ (inW [(1, 1), (20, 1), (21, 1), (22, 1), (23, 1), (24, 1), (25, 1), (26, 1), (27, 1), (4, 0), (0, 0), (1, 0), (20, 0), (21, 0), (22, 0), (23, 0), (24, 0), (25, 0), (26, 0), (27, 0), (7, 0), (34, 0), (35, 0), (36, 0), (33, 0)]) E E := Fr.refl
    cases v1 with
    | none =>
      refine W.eq (g2 := F0 m 29 ls [.null]) rfl ?_
      refine lv_astore_nN (lv' := [(2, .null), (0, .ref a0), (1, .int a1)]) hx hb dX9_law_29 rfl hl (by decide) rfl (fun l10 hl11 => ?_)
      refine lv_aload_nN hx hb dX9_law_30 rfl (lv_at hl11 0 rfl) ?_
      refine lv_ifnonnullN hx hb dX9_law_31 ?_
      refine lv_aload_n hx hb dX9_law_34 rfl (lv_at hl11 1 rfl) ?_
      obtain ⟨v12, ev12, tv12⟩ : ∃ v : Int32, Int32.ofInt (2) = v ∧ v.toInt = 2 := ⟨_, rfl, by decide +kernel⟩
      refine lv_iconst hx hb dX9_law_35 ev12 ?_
      refine tc_vi Z.1 Z.2.2.2.1 Z.2.2.2.2.1 Z.2.2.2.2.2 S1.1 S1.2 ha0 ta0 rfl rfl (k_X9_refuse l D cy S1.2 ha0 ta0 v12) (cwV 1 hts gX9_law_X9_refuse rfl rfl rfl (by decide +kernel) ⟨Nat.le_of_ble_eq_true rfl, Nat.le_of_ble_eq_true rfl⟩) rfl hl11.1 rfl (Nat.le_of_ble_eq_true rfl) dX9_law_36 ⟨Nat.le_of_ble_eq_true rfl, Nat.le_of_ble_eq_true rfl⟩ (fun v16 E13 H14 k15 W13 I13 G13 p13 => ?_)
      obtain ⟨p13_0, p13_1⟩ := p13
      have S13 : Now D TB cy _ s L τ E13 H14 k15 := ⟨W13, I13⟩
      have F13 : Fr L τ (inW [(1, 1), (20, 1), (21, 1), (22, 1), (23, 1), (24, 1), (25, 1), (26, 1), (27, 1), (4, 0), (0, 0), (1, 0), (20, 0), (21, 0), (22, 0), (23, 0), (24, 0), (25, 0), (26, 0), (27, 0), (7, 0), (34, 0), (35, 0), (36, 0), (33, 0)]) E E13 := F0_.trans (G13.mono (inW_mono (by decide)))
      rw [← hQ]
      exact en_iL (v := v16) (post := fun v L' τ' E' => τ' a0 = (0, 0) ∧ -1 ≤ v.toInt ∧ v.toInt ≤ 7) Z S13 (GG _ F13) ⟨ta0, by omega, by omega⟩ dX9_law_39
    | some q17 =>
      obtain ⟨hq17, gq17⟩ := p1c q17 rfl
      obtain ⟨nq17, tq17⟩ : ∃ n : Nat, τ q17 = (10, n) := ⟨(τ q17).2, by rw [← gq17]⟩
      refine W.eq (g2 := F0 m 29 ls [.ref q17]) rfl ?_
      refine lv_astore_n (lv' := [(2, .ref q17), (0, .ref a0), (1, .int a1)]) hx hb dX9_law_29 rfl hl (by decide) rfl (fun l18 hl19 => ?_)
      refine lv_aload_n hx hb dX9_law_30 rfl (lv_at hl19 0 rfl) ?_
      refine lv_ifnonnull (tgt := 40) hx hb dX9_law_31 (by decide) ?_
      refine lv_aload_n hx hb dX9_law_40 rfl (lv_at hl19 1 rfl) ?_
      refine tr_getr Z.1 Z.2.2.2.1 S1.1 S1.2 ha0 ta0 rfl rfl (fun _ h => List.mem_cons_of_mem _ (List.mem_append_left _ (List.mem_append_left _ (List.mem_append_left _ (List.mem_append_left _ (List.mem_append_right _ h)))))) 0 (by decide) rfl (hts _ (List.mem_of_getElem? (i := 3) rfl)) dX9_law_41 (fun q20 eq20 hq20 tq20 => ?_)
      have tq20 : τ q20 = (1, 0) := tq20
      refine tr_geti Z.1 Z.2.2.2.1 S1.1 S1.2 hq20 tq20 rfl rfl (fun _ h => List.mem_cons_of_mem _ (List.mem_append_left _ (List.mem_append_left _ (List.mem_append_right _ h)))) 7 (by decide) rfl (hts _ (List.mem_of_getElem? (i := 4) rfl)) dX9_law_44 (fun v21 ev21 lv21 uv21 => ?_)
      obtain ⟨v22, ev22, tv22⟩ : ∃ v : Int32, (Int8.ofInt (8)).toInt32 = v ∧ v.toInt = 8 := ⟨_, rfl, by decide +kernel⟩
      refine lv_bipush hx hb dX9_law_47 ev22 ?_
      refine lv_icmp_lt (tgt := 58) hx hb dX9_law_49 (by decide) (fun c23 => ?_) (fun c23 => ?_)
      · skip
        have tc23 := nu_lt c23
        refine lv_aload_n hx hb dX9_law_58 rfl (lv_at hl19 1 rfl) ?_
        refine tc_vv Z.1 Z.2.2.2.1 Z.2.2.2.2.1 Z.2.2.2.2.2 S1.1 S1.2 ha0 ta0 rfl rfl (k_X9_beginAct l D cy S1.2 ha0 ta0) (cwV 0 hts gX9_law_X9_beginAct rfl rfl rfl (by decide +kernel) ⟨Nat.le_of_ble_eq_true rfl, Nat.le_of_ble_eq_true rfl⟩) rfl hl19.1 rfl (Nat.le_of_ble_eq_true rfl) dX9_law_59 ⟨Nat.le_of_ble_eq_true rfl, Nat.le_of_ble_eq_true rfl⟩ (fun E24 H25 k26 W24 I24 G24 p24 => ?_)
        have S24 : Now D TB cy _ s L τ E24 H25 k26 := ⟨W24, I24⟩
        have F24 : Fr L τ (inW [(1, 1), (20, 1), (21, 1), (22, 1), (23, 1), (24, 1), (25, 1), (26, 1), (27, 1), (4, 0), (0, 0), (1, 0), (20, 0), (21, 0), (22, 0), (23, 0), (24, 0), (25, 0), (26, 0), (27, 0), (7, 0), (34, 0), (35, 0), (36, 0), (33, 0)]) E E24 := F0_.trans (G24.mono (inW_mono (by decide)))
        refine lv_aload_n hx hb dX9_law_62 rfl (lv_at hl19 1 rfl) ?_
        refine tr_getr Z.1 Z.2.2.2.1 S24.1 S24.2 ha0 ta0 rfl rfl (fun _ h => List.mem_cons_of_mem _ (List.mem_append_left _ (List.mem_append_left _ (List.mem_append_left _ (List.mem_append_left _ (List.mem_append_right _ h)))))) 0 (by decide) rfl (hts _ (List.mem_of_getElem? (i := 3) rfl)) dX9_law_63 (fun q28 eq28 hq28 tq28 => ?_)
        have tq28 : τ q28 = (1, 0) := tq28
        have uq28 : q20 = q28 := S24.2.2.2.2 _ hq20 _ hq28 (tq20.trans tq28.symm) (by rw [tq20]; rfl)
        subst uq28
        refine tr_getr Z.1 Z.2.2.2.1 S24.1 S24.2 hq20 tq20 rfl rfl (fun _ h => List.mem_cons_of_mem _ (List.mem_append_left _ (List.mem_append_left _ (List.mem_append_right _ h)))) 15 (by decide) rfl (hts _ (List.mem_of_getElem? (i := 5) rfl)) dX9_law_66 (fun q29 eq29 hq29 tq29 => ?_)
        have tq29 : τ q29 = (27, 0) := tq29
        refine lv_aload_n hx hb dX9_law_69 rfl (lv_at hl19 1 rfl) ?_
        refine tr_getr Z.1 Z.2.2.2.1 S24.1 S24.2 ha0 ta0 rfl rfl (fun _ h => List.mem_cons_of_mem _ (List.mem_append_left _ (List.mem_append_left _ (List.mem_append_left _ (List.mem_append_left _ (List.mem_append_right _ h)))))) 0 (by decide) rfl (hts _ (List.mem_of_getElem? (i := 3) rfl)) dX9_law_70 (fun q30 eq30 hq30 tq30 => ?_)
        have tq30 : τ q30 = (1, 0) := tq30
        have uq30 : q20 = q30 := S24.2.2.2.2 _ hq20 _ hq30 (tq20.trans tq30.symm) (by rw [tq20]; rfl)
        subst uq30
        refine tr_geti Z.1 Z.2.2.2.1 S24.1 S24.2 hq20 tq20 rfl rfl (fun _ h => List.mem_cons_of_mem _ (List.mem_append_left _ (List.mem_append_left _ (List.mem_append_right _ h)))) 7 (by decide) rfl (hts _ (List.mem_of_getElem? (i := 4) rfl)) dX9_law_73 (fun v31 ev31 lv31 uv31 => ?_)
        have wv31 : v31 = v21 := ev31.symm.trans ((fi_fr G24 hq20 (by rw [tq20]; rfl)).trans ev21)
        have xv31 : v31.toInt = v21.toInt := by rw [wv31]
        refine lv_aload_n hx hb dX9_law_76 rfl (lv_at hl19 0 rfl) ?_
        have hv32 : ∀ y : Nat, (some q17) = some y → y ∈ L ∧ (τ y).1 = 10 := (fun y h => by cases h; exact ⟨hq17, by rw [tq17]⟩)
        refine tr_aast (v := (some q17)) (ci := 1) Z.1 Z.2.2.2.1 S24.1 S24.2 hq29 tq29 rfl rfl rfl (law_ob hv32) (law_ok hv32) (by omega) (by omega) dX9_law_77 (fun E32 H33 k34 W32 I32 P32 => ?_)
        have S32 : Now D TB cy _ s L τ E32 H33 k34 := ⟨W32, I32⟩
        have F32 : Fr L τ (inW [(1, 1), (20, 1), (21, 1), (22, 1), (23, 1), (24, 1), (25, 1), (26, 1), (27, 1), (4, 0), (0, 0), (1, 0), (20, 0), (21, 0), (22, 0), (23, 0), (24, 0), (25, 0), (26, 0), (27, 0), (7, 0), (34, 0), (35, 0), (36, 0), (33, 0)]) E E32 := Fr.seq F24 P32 tq29 rfl
        refine lv_aload_n hx hb dX9_law_78 rfl (lv_at hl19 1 rfl) ?_
        refine tr_getr Z.1 Z.2.2.2.1 S32.1 S32.2 ha0 ta0 rfl rfl (fun _ h => List.mem_cons_of_mem _ (List.mem_append_left _ (List.mem_append_left _ (List.mem_append_left _ (List.mem_append_left _ (List.mem_append_right _ h)))))) 0 (by decide) rfl (hts _ (List.mem_of_getElem? (i := 3) rfl)) dX9_law_79 (fun q35 eq35 hq35 tq35 => ?_)
        have tq35 : τ q35 = (1, 0) := tq35
        have uq35 : q20 = q35 := S32.2.2.2.2 _ hq20 _ hq35 (tq20.trans tq35.symm) (by rw [tq20]; rfl)
        subst uq35
        refine lv_dup hx hb dX9_law_82 rfl ?_
        refine tr_geti Z.1 Z.2.2.2.1 S32.1 S32.2 hq20 tq20 rfl rfl (fun _ h => List.mem_cons_of_mem _ (List.mem_append_left _ (List.mem_append_left _ (List.mem_append_right _ h)))) 7 (by decide) rfl (hts _ (List.mem_of_getElem? (i := 4) rfl)) dX9_law_83 (fun v36 ev36 lv36 uv36 => ?_)
        have wv36 : v36 = v31 := ev36.symm.trans ((fi_seq P32 (ne_ro tq20 tq29 (by decide))).trans ev31)
        have xv36 : v36.toInt = v31.toInt := by rw [wv36]
        obtain ⟨v37, ev37, tv37⟩ : ∃ v : Int32, Int32.ofInt (1) = v ∧ v.toInt = 1 := ⟨_, rfl, by decide +kernel⟩
        refine lv_iconst hx hb dX9_law_86 ev37 ?_
        refine lv_iadd hx hb dX9_law_87 ?_
        refine lv_topi (fun v38 ev38 => ?_)
        have tv38 := nu_add ev38 (by omega) (by omega)
        refine tr_puti Z.1 Z.2.2.2.1 S32.1 S32.2 hq20 tq20 rfl rfl (fun _ h => List.mem_cons_of_mem _ (List.mem_append_left _ (List.mem_append_left _ (List.mem_append_right _ h)))) tyX4_ok nmX4 7 (by decide) rfl rfl rfl (hts _ (List.mem_of_getElem? (i := 4) rfl)) dX9_law_88 (by omega) (by omega) (fun E39 H40 k41 W39 I39 P39 => ?_)
        have S39 : Now D TB cy _ s L τ E39 H40 k41 := ⟨W39, I39⟩
        have F39 : Fr L τ (inW [(1, 1), (20, 1), (21, 1), (22, 1), (23, 1), (24, 1), (25, 1), (26, 1), (27, 1), (4, 0), (0, 0), (1, 0), (20, 0), (21, 0), (22, 0), (23, 0), (24, 0), (25, 0), (26, 0), (27, 0), (7, 0), (34, 0), (35, 0), (36, 0), (33, 0)]) E E39 := Fr.put F32 P39 tq20 rfl
        refine lv_aload_n hx hb dX9_law_91 rfl (lv_at hl19 1 rfl) ?_
        refine tr_getr Z.1 Z.2.2.2.1 S39.1 S39.2 ha0 ta0 rfl rfl (fun _ h => List.mem_cons_of_mem _ (List.mem_append_left _ (List.mem_append_left _ (List.mem_append_left _ (List.mem_append_left _ (List.mem_append_right _ h)))))) 0 (by decide) rfl (hts _ (List.mem_of_getElem? (i := 3) rfl)) dX9_law_92 (fun q42 eq42 hq42 tq42 => ?_)
        have tq42 : τ q42 = (1, 0) := tq42
        have uq42 : q20 = q42 := S39.2.2.2.2 _ hq20 _ hq42 (tq20.trans tq42.symm) (by rw [tq20]; rfl)
        subst uq42
        refine tr_geti Z.1 Z.2.2.2.1 S39.1 S39.2 hq20 tq20 rfl rfl (fun _ h => List.mem_cons_of_mem _ (List.mem_append_left _ (List.mem_append_left _ (List.mem_append_right _ h)))) 7 (by decide) rfl (hts _ (List.mem_of_getElem? (i := 4) rfl)) dX9_law_95 (fun v43 ev43 lv43 uv43 => ?_)
        have wv43 : v43 = v38 := ev43.symm.trans (fi_at P39)
        have xv43 : v43.toInt = v38.toInt := by rw [wv43]
        obtain ⟨v44, ev44, tv44⟩ : ∃ v : Int32, Int32.ofInt (1) = v ∧ v.toInt = 1 := ⟨_, rfl, by decide +kernel⟩
        refine lv_iconst hx hb dX9_law_98 ev44 ?_
        refine lv_isub hx hb dX9_law_99 ?_
        refine lv_topi (fun v45 ev45 => ?_)
        have tv45 := nu_sub ev45 (by omega) (by omega)
        rw [← hQ]
        exact en_iL (v := v45) (post := fun v L' τ' E' => τ' a0 = (0, 0) ∧ -1 ≤ v.toInt ∧ v.toInt ≤ 7) Z S39 (GG _ F39) ⟨ta0, by omega, by omega⟩ dX9_law_100
      · skip
        have tc23 := nu_nlt c23
        refine lv_aload_n hx hb dX9_law_52 rfl (lv_at hl19 1 rfl) ?_
        obtain ⟨v46, ev46, tv46⟩ : ∃ v : Int32, Int32.ofInt (3) = v ∧ v.toInt = 3 := ⟨_, rfl, by decide +kernel⟩
        refine lv_iconst hx hb dX9_law_53 ev46 ?_
        refine tc_vi Z.1 Z.2.2.2.1 Z.2.2.2.2.1 Z.2.2.2.2.2 S1.1 S1.2 ha0 ta0 rfl rfl (k_X9_refuse l D cy S1.2 ha0 ta0 v46) (cwV 1 hts gX9_law_X9_refuse rfl rfl rfl (by decide +kernel) ⟨Nat.le_of_ble_eq_true rfl, Nat.le_of_ble_eq_true rfl⟩) rfl hl19.1 rfl (Nat.le_of_ble_eq_true rfl) dX9_law_54 ⟨Nat.le_of_ble_eq_true rfl, Nat.le_of_ble_eq_true rfl⟩ (fun v50 E47 H48 k49 W47 I47 G47 p47 => ?_)
        obtain ⟨p47_0, p47_1⟩ := p47
        have S47 : Now D TB cy _ s L τ E47 H48 k49 := ⟨W47, I47⟩
        have F47 : Fr L τ (inW [(1, 1), (20, 1), (21, 1), (22, 1), (23, 1), (24, 1), (25, 1), (26, 1), (27, 1), (4, 0), (0, 0), (1, 0), (20, 0), (21, 0), (22, 0), (23, 0), (24, 0), (25, 0), (26, 0), (27, 0), (7, 0), (34, 0), (35, 0), (36, 0), (33, 0)]) E E47 := F0_.trans (G47.mono (inW_mono (by decide)))
        rw [← hQ]
        exact en_iL (v := v50) (post := fun v L' τ' E' => τ' a0 = (0, 0) ∧ -1 ≤ v.toInt ∧ v.toInt ≤ 7) Z S47 (GG _ F47) ⟨ta0, by omega, by omega⟩ dX9_law_57
  · skip
    have tc8 := nu_eq c8
    have uc8 : (0 : Int32).toInt = 0 := rfl
    refine lv_aload_n hx hb dX9_law_15 rfl (lv_at hl 0 rfl) ?_
    obtain ⟨v51, ev51, tv51⟩ : ∃ v : Int32, Int32.ofInt (1) = v ∧ v.toInt = 1 := ⟨_, rfl, by decide +kernel⟩
    refine lv_iconst hx hb dX9_law_16 ev51 ?_
    refine tc_vi Z.1 Z.2.2.2.1 Z.2.2.2.2.1 Z.2.2.2.2.2 S4.1 S4.2 ha0 ta0 rfl rfl (k_X9_refuse l D cy S4.2 ha0 ta0 v51) (cwV 1 hts gX9_law_X9_refuse rfl rfl rfl (by decide +kernel) ⟨Nat.le_of_ble_eq_true rfl, Nat.le_of_ble_eq_true rfl⟩) rfl hl.1 rfl (Nat.le_of_ble_eq_true rfl) dX9_law_17 ⟨Nat.zero_le _, Nat.zero_le _⟩ (fun v55 E52 H53 k54 W52 I52 G52 p52 => ?_)
    obtain ⟨p52_0, p52_1⟩ := p52
    have S52 : Now D TB cy _ s L τ E52 H53 k54 := ⟨W52, I52⟩
    have F52 : Fr L τ (inW [(1, 1), (20, 1), (21, 1), (22, 1), (23, 1), (24, 1), (25, 1), (26, 1), (27, 1), (4, 0), (0, 0), (1, 0), (20, 0), (21, 0), (22, 0), (23, 0), (24, 0), (25, 0), (26, 0), (27, 0), (7, 0), (34, 0), (35, 0), (36, 0), (33, 0)]) E E52 := F0_.trans (G52.mono (inW_mono (by decide)))
    rw [← hQ]
    refine W.widen (k := 5) (n := 262) (Nat.le_of_ble_eq_true rfl) (Nat.le_of_ble_eq_true rfl) ?_
    exact en_iL (v := v55) (post := fun v L' τ' E' => τ' a0 = (0, 0) ∧ -1 ≤ v.toInt ∧ v.toInt ≤ 7) Z S52 (GL.fr F52) ⟨ta0, by omega, by omega⟩ dX9_law_20

