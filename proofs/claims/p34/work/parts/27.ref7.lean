theorem dX10_freeSlot_0 : decode cX10_freeSlot 0 = .ok (.iconst 0, 1) := by decide +kernel
theorem dX10_freeSlot_1 : decode cX10_freeSlot 1 = .ok (.istore_n 1, 1) := by decide +kernel
theorem dX10_freeSlot_2 : decode cX10_freeSlot 2 = .ok (.iload_n 1, 1) := by decide +kernel
theorem dX10_freeSlot_3 : decode cX10_freeSlot 3 = .ok (.bipush 50, 2) := by decide +kernel
theorem dX10_freeSlot_5 : decode cX10_freeSlot 5 = .ok (.if_icmp .ge 130, 3) := by decide +kernel
theorem dX10_freeSlot_8 : decode cX10_freeSlot 8 = .ok (.iconst 1, 1) := by decide +kernel
theorem dX10_freeSlot_9 : decode cX10_freeSlot 9 = .ok (.istore_n 2, 1) := by decide +kernel
theorem dX10_freeSlot_10 : decode cX10_freeSlot 10 = .ok (.iconst 0, 1) := by decide +kernel
theorem dX10_freeSlot_11 : decode cX10_freeSlot 11 = .ok (.istore_n 3, 1) := by decide +kernel
theorem dX10_freeSlot_12 : decode cX10_freeSlot 12 = .ok (.iload_n 3, 1) := by decide +kernel
theorem dX10_freeSlot_13 : decode cX10_freeSlot 13 = .ok (.aload_n 0, 1) := by decide +kernel
theorem dX10_freeSlot_14 : decode cX10_freeSlot 14 = .ok (.getfield 7, 3) := by decide +kernel
theorem dX10_freeSlot_17 : decode cX10_freeSlot 17 = .ok (.bipush 44, 2) := by decide +kernel
theorem dX10_freeSlot_19 : decode cX10_freeSlot 19 = .ok (.iaload, 1) := by decide +kernel
theorem dX10_freeSlot_20 : decode cX10_freeSlot 20 = .ok (.if_icmp .ge 32, 3) := by decide +kernel
theorem dX10_freeSlot_23 : decode cX10_freeSlot 23 = .ok (.iload_n 2, 1) := by decide +kernel
theorem dX10_freeSlot_24 : decode cX10_freeSlot 24 = .ok (.ifCond .eq 20, 3) := by decide +kernel
theorem dX10_freeSlot_27 : decode cX10_freeSlot 27 = .ok (.aload_n 0, 1) := by decide +kernel
theorem dX10_freeSlot_28 : decode cX10_freeSlot 28 = .ok (.getfield 7, 3) := by decide +kernel
theorem dX10_freeSlot_31 : decode cX10_freeSlot 31 = .ok (.bipush 45, 2) := by decide +kernel
theorem dX10_freeSlot_33 : decode cX10_freeSlot 33 = .ok (.iload_n 3, 1) := by decide +kernel
theorem dX10_freeSlot_34 : decode cX10_freeSlot 34 = .ok (.iadd, 1) := by decide +kernel
theorem dX10_freeSlot_35 : decode cX10_freeSlot 35 = .ok (.iaload, 1) := by decide +kernel
theorem dX10_freeSlot_36 : decode cX10_freeSlot 36 = .ok (.iload_n 1, 1) := by decide +kernel
theorem dX10_freeSlot_37 : decode cX10_freeSlot 37 = .ok (.if_icmp .eq 7, 3) := by decide +kernel
theorem dX10_freeSlot_40 : decode cX10_freeSlot 40 = .ok (.iconst 1, 1) := by decide +kernel
theorem dX10_freeSlot_41 : decode cX10_freeSlot 41 = .ok (.goto 4, 3) := by decide +kernel
theorem dX10_freeSlot_44 : decode cX10_freeSlot 44 = .ok (.iconst 0, 1) := by decide +kernel
theorem dX10_freeSlot_45 : decode cX10_freeSlot 45 = .ok (.istore_n 2, 1) := by decide +kernel
theorem dX10_freeSlot_46 : decode cX10_freeSlot 46 = .ok (.iinc 3 1, 3) := by decide +kernel
theorem dX10_freeSlot_49 : decode cX10_freeSlot 49 = .ok (.goto (-37), 3) := by decide +kernel
theorem dX10_freeSlot_52 : decode cX10_freeSlot 52 = .ok (.iconst 0, 1) := by decide +kernel
theorem dX10_freeSlot_53 : decode cX10_freeSlot 53 = .ok (.istore_n 3, 1) := by decide +kernel
theorem dX10_freeSlot_54 : decode cX10_freeSlot 54 = .ok (.iload_n 3, 1) := by decide +kernel
theorem dX10_freeSlot_55 : decode cX10_freeSlot 55 = .ok (.aload_n 0, 1) := by decide +kernel
theorem dX10_freeSlot_56 : decode cX10_freeSlot 56 = .ok (.getfield 103, 3) := by decide +kernel
theorem dX10_freeSlot_59 : decode cX10_freeSlot 59 = .ok (.if_icmp .ge 64, 3) := by decide +kernel
theorem dX10_freeSlot_62 : decode cX10_freeSlot 62 = .ok (.iconst 0, 1) := by decide +kernel
theorem dX10_freeSlot_63 : decode cX10_freeSlot 63 = .ok (.istore 4, 2) := by decide +kernel
theorem dX10_freeSlot_65 : decode cX10_freeSlot 65 = .ok (.iload 4, 2) := by decide +kernel
theorem dX10_freeSlot_67 : decode cX10_freeSlot 67 = .ok (.aload_n 0, 1) := by decide +kernel
theorem dX10_freeSlot_68 : decode cX10_freeSlot 68 = .ok (.getfield 13, 3) := by decide +kernel
theorem dX10_freeSlot_71 : decode cX10_freeSlot 71 = .ok (.bipush 53, 2) := by decide +kernel
theorem dX10_freeSlot_73 : decode cX10_freeSlot 73 = .ok (.iload_n 3, 1) := by decide +kernel
theorem dX10_freeSlot_74 : decode cX10_freeSlot 74 = .ok (.imul, 1) := by decide +kernel
theorem dX10_freeSlot_75 : decode cX10_freeSlot 75 = .ok (.bipush 44, 2) := by decide +kernel
theorem dX10_freeSlot_77 : decode cX10_freeSlot 77 = .ok (.iadd, 1) := by decide +kernel
theorem dX10_freeSlot_78 : decode cX10_freeSlot 78 = .ok (.iaload, 1) := by decide +kernel
theorem dX10_freeSlot_79 : decode cX10_freeSlot 79 = .ok (.if_icmp .ge 38, 3) := by decide +kernel
theorem dX10_freeSlot_82 : decode cX10_freeSlot 82 = .ok (.iload_n 2, 1) := by decide +kernel
theorem dX10_freeSlot_83 : decode cX10_freeSlot 83 = .ok (.ifCond .eq 26, 3) := by decide +kernel
theorem dX10_freeSlot_86 : decode cX10_freeSlot 86 = .ok (.aload_n 0, 1) := by decide +kernel
theorem dX10_freeSlot_87 : decode cX10_freeSlot 87 = .ok (.getfield 13, 3) := by decide +kernel
theorem dX10_freeSlot_90 : decode cX10_freeSlot 90 = .ok (.bipush 53, 2) := by decide +kernel
theorem dX10_freeSlot_92 : decode cX10_freeSlot 92 = .ok (.iload_n 3, 1) := by decide +kernel
theorem dX10_freeSlot_93 : decode cX10_freeSlot 93 = .ok (.imul, 1) := by decide +kernel
theorem dX10_freeSlot_94 : decode cX10_freeSlot 94 = .ok (.bipush 45, 2) := by decide +kernel
theorem dX10_freeSlot_96 : decode cX10_freeSlot 96 = .ok (.iadd, 1) := by decide +kernel
theorem dX10_freeSlot_97 : decode cX10_freeSlot 97 = .ok (.iload 4, 2) := by decide +kernel
theorem dX10_freeSlot_99 : decode cX10_freeSlot 99 = .ok (.iadd, 1) := by decide +kernel
theorem dX10_freeSlot_100 : decode cX10_freeSlot 100 = .ok (.iaload, 1) := by decide +kernel
theorem dX10_freeSlot_101 : decode cX10_freeSlot 101 = .ok (.iload_n 1, 1) := by decide +kernel
theorem dX10_freeSlot_102 : decode cX10_freeSlot 102 = .ok (.if_icmp .eq 7, 3) := by decide +kernel
theorem dX10_freeSlot_105 : decode cX10_freeSlot 105 = .ok (.iconst 1, 1) := by decide +kernel
theorem dX10_freeSlot_106 : decode cX10_freeSlot 106 = .ok (.goto 4, 3) := by decide +kernel
theorem dX10_freeSlot_109 : decode cX10_freeSlot 109 = .ok (.iconst 0, 1) := by decide +kernel
theorem dX10_freeSlot_110 : decode cX10_freeSlot 110 = .ok (.istore_n 2, 1) := by decide +kernel
theorem dX10_freeSlot_111 : decode cX10_freeSlot 111 = .ok (.iinc 4 1, 3) := by decide +kernel
theorem dX10_freeSlot_114 : decode cX10_freeSlot 114 = .ok (.goto (-49), 3) := by decide +kernel
theorem dX10_freeSlot_117 : decode cX10_freeSlot 117 = .ok (.iinc 3 1, 3) := by decide +kernel
theorem dX10_freeSlot_120 : decode cX10_freeSlot 120 = .ok (.goto (-66), 3) := by decide +kernel
theorem dX10_freeSlot_123 : decode cX10_freeSlot 123 = .ok (.iload_n 2, 1) := by decide +kernel
theorem dX10_freeSlot_124 : decode cX10_freeSlot 124 = .ok (.ifCond .eq 5, 3) := by decide +kernel
theorem dX10_freeSlot_127 : decode cX10_freeSlot 127 = .ok (.iload_n 1, 1) := by decide +kernel
theorem dX10_freeSlot_128 : decode cX10_freeSlot 128 = .ok (.ireturn, 1) := by decide +kernel
theorem dX10_freeSlot_129 : decode cX10_freeSlot 129 = .ok (.iinc 1 1, 3) := by decide +kernel
theorem dX10_freeSlot_132 : decode cX10_freeSlot 132 = .ok (.goto (-130), 3) := by decide +kernel
theorem dX10_freeSlot_135 : decode cX10_freeSlot 135 = .ok (.iconst (-1), 1) := by decide +kernel
theorem dX10_freeSlot_136 : decode cX10_freeSlot 136 = .ok (.ireturn, 1) := by decide +kernel
set_option maxHeartbeats 4000000 in
set_option maxRecDepth 100000 in
theorem k_X10_freeSlot (l : Launch) (D : va_G) (cy : Nat → ClassId) {L : List Nat} {τ : Nat → Ro} {E : Ec} (hI : Inv TB cy L τ E) {a0 : Nat} (ha0 : a0 ∈ L) (ta0 : τ a0 = (11, 0)) (hC : Chain L τ E) : CtI l yX10_freeSlot wsX10_freeSlot { frames := 0, cells := 0, slots := 0, locals := 0 } D TB cy L τ E [.ref a0] (inW []) (fun r E' => E' = E ∧ 0 ≤ r.toInt ∧ r.toInt ≤ 49) := by
  intro sz
  refine sta (cc := cX10_freeSlot) (maxL := 5) hI (by decide) rfl (Nat.le_of_ble_eq_true rfl) (fun p e s m args below meth c ls hsz Z S0 hl => ?_)
  have hx := Z.1.1
  have hb := Z.1.2.1
  have hts := Z.1.2.2.2.2
  have F0_ : Fr L τ (inW []) E E := Fr.refl
  have hl : lv_has ls 5 [(0, .ref a0)] := hl
  generalize hQ : MQ below _ args s 0 0 _ = QQ
  obtain ⟨qn, hqn, tqn⟩ := ref_of (k := 0) hI ha0 ta0 rfl rfl
  have tqn : τ qn = (60, 0) := tqn
  obtain ⟨qp, hqp, tqp⟩ := ref_of (k := 1) hI ha0 ta0 rfl rfl
  have tqp : τ qp = (61, 0) := tqp
  have J2 : ∀ (n : Nat) (x1_2 : Int32) (H_2 : Heap) (k_2 : List Loc) (l_2 : Array Slot), Now D TB cy (va_A (va_pl L E) sz) s L τ E H_2 k_2 → (0 ≤ x1_2.toInt) → (x1_2.toInt ≤ 50) → (∀ y : Int32, 0 ≤ y.toInt → y.toInt < x1_2.toInt → Used E a0 qn qp y) → (50 - x1_2.toInt).toNat < n → lv_has l_2 5 [(0, .ref a0), (1, .int x1_2)] → W p l e { frames := 0, cells := 0, slots := 0, locals := 0 } s m args below meth c H_2 k_2 0 0 QQ (F0 m 2 l_2 []) := by
    intro n
    induction n with
    | zero => intro x1_2 H_2 k_2 l_2 S_2 z1 z2 z3 hm hl_2; exact absurd hm (Nat.not_lt_zero _)
    | succ n ih =>
      intro x1_2 H_2 k_2 l_2 S_2 z1 z2 z3 hm hl_2
      have ih_2 := ih
      have J54 : ∀ (n : Nat) (x2_54 : Int32) (x3_54 : Int32) (H_54 : Heap) (k_54 : List Loc) (l_54 : Array Slot), Now D TB cy (va_A (va_pl L E) sz) s L τ E H_54 k_54 → (0 ≤ x1_2.toInt) → (x1_2.toInt ≤ 49) → (0 ≤ x2_54.toInt) → (x2_54.toInt ≤ 1) → (0 ≤ x3_54.toInt) → (x3_54.toInt ≤ 40) → (Used E a0 qn qp x1_2 ∨ x2_54.toInt = 1) → (40 - x3_54.toInt).toNat < n → lv_has l_54 5 [(0, .ref a0), (1, .int x1_2), (2, .int x2_54), (3, .int x3_54)] → W p l e { frames := 0, cells := 0, slots := 0, locals := 0 } s m args below meth c H_54 k_54 0 0 QQ (F0 m 54 l_54 []) := by
        intro n
        induction n with
        | zero => intro x2_54 x3_54 H_54 k_54 l_54 S_54 z4 z5 z6 z7 z8 z9 z10 hm hl_54; exact absurd hm (Nat.not_lt_zero _)
        | succ n ih =>
          intro x2_54 x3_54 H_54 k_54 l_54 S_54 z4 z5 z6 z7 z8 z9 z10 hm hl_54
          have ih_54 := ih
          have J65 : ∀ (n : Nat) (x2_65 : Int32) (x4_65 : Int32) (H_65 : Heap) (k_65 : List Loc) (l_65 : Array Slot), Now D TB cy (va_A (va_pl L E) sz) s L τ E H_65 k_65 → (0 ≤ x1_2.toInt) → (x1_2.toInt ≤ 49) → (0 ≤ x2_65.toInt) → (x2_65.toInt ≤ 1) → (0 ≤ x3_54.toInt) → (x3_54.toInt ≤ 39) → (0 ≤ x4_65.toInt) → (x4_65.toInt ≤ 8) → (Used E a0 qn qp x1_2 ∨ x2_65.toInt = 1) → (x3_54.toInt < (fi E a0 2).toInt) → (8 - x4_65.toInt).toNat < n → lv_has l_65 5 [(0, .ref a0), (1, .int x1_2), (2, .int x2_65), (3, .int x3_54), (4, .int x4_65)] → W p l e { frames := 0, cells := 0, slots := 0, locals := 0 } s m args below meth c H_65 k_65 0 0 QQ (F0 m 65 l_65 []) := by
            intro n
            induction n with
            | zero => intro x2_65 x4_65 H_65 k_65 l_65 S_65 z11 z12 z13 z14 z15 z16 z17 z18 z19 z20 hm hl_65; exact absurd hm (Nat.not_lt_zero _)
            | succ n ih =>
              intro x2_65 x4_65 H_65 k_65 l_65 S_65 z11 z12 z13 z14 z15 z16 z17 z18 z19 z20 hm hl_65
              have ih_65 := ih
              have J110 : ∀ (y0_110 : Int32) (H_110 : Heap) (k_110 : List Loc) (l_110 : Array Slot), Now D TB cy (va_A (va_pl L E) sz) s L τ E H_110 k_110 → (0 ≤ x1_2.toInt) → (x1_2.toInt ≤ 49) → (0 ≤ x3_54.toInt) → (x3_54.toInt ≤ 39) → (0 ≤ x4_65.toInt) → (x4_65.toInt ≤ 7) → (0 ≤ y0_110.toInt) → (y0_110.toInt ≤ 1) → (Used E a0 qn qp x1_2 ∨ y0_110.toInt = 1) → lv_has l_110 5 [(0, .ref a0), (1, .int x1_2), (3, .int x3_54), (4, .int x4_65)] → W p l e { frames := 0, cells := 0, slots := 0, locals := 0 } s m args below meth c H_110 k_110 0 0 QQ (F0 m 110 l_110 [.int y0_110]) := by
                intro y0_110 H_110 k_110 l_110 S_110 z21 z22 z23 z24 z25 z26 z27 z28 z29 hl_110
                refine lv_istore_n (lv' := [(2, .int y0_110), (0, .ref a0), (1, .int x1_2), (3, .int x3_54), (4, .int x4_65)]) hx hb dX10_freeSlot_110 rfl hl_110 (by decide) rfl (fun l30 hl31 => ?_)
                obtain ⟨v32, ev32⟩ : ∃ y : Int32, x4_65 + Int32.ofInt (1) = y := ⟨_, rfl⟩
                have tv32 : v32.toInt = x4_65.toInt + (1) := by rw [← ev32]; exact (fb_addI (by rw [show (Int32.ofInt (1)).toInt = 1 from by decide +kernel]; omega) (by rw [show (Int32.ofInt (1)).toInt = 1 from by decide +kernel]; omega)).trans (by rw [show (Int32.ofInt (1)).toInt = 1 from by decide +kernel])
                refine lv_iinc (v := v32) (lv' := [(4, .int v32), (2, .int y0_110), (0, .ref a0), (1, .int x1_2), (3, .int x3_54)]) hx hb dX10_freeSlot_111 hl31 (k := 4) rfl ev32 (by decide) rfl (fun l33 hl34 => ?_)
                refine lv_goto (tgt := 65) hx hb dX10_freeSlot_114 (by decide) ?_
                exact ih_65 y0_110 v32 H_110 k_110 l33 S_110 (by omega) (by omega) (by omega) (by omega) (by omega) (by omega) (by omega) (by omega) z29 z20 (by omega) (lv_sub hl34 [2, 3, 1, 4, 0] rfl)
              have J109 : ∀  (H_109 : Heap) (k_109 : List Loc) (l_109 : Array Slot), Now D TB cy (va_A (va_pl L E) sz) s L τ E H_109 k_109 → (0 ≤ x1_2.toInt) → (x1_2.toInt ≤ 49) → (0 ≤ x3_54.toInt) → (x3_54.toInt ≤ 39) → (0 ≤ x4_65.toInt) → (x4_65.toInt ≤ 7) → (Used E a0 qn qp x1_2 ) → lv_has l_109 5 [(0, .ref a0), (1, .int x1_2), (3, .int x3_54), (4, .int x4_65)] → W p l e { frames := 0, cells := 0, slots := 0, locals := 0 } s m args below meth c H_109 k_109 0 0 QQ (F0 m 109 l_109 []) := by
                intro  H_109 k_109 l_109 S_109 z35 z36 z37 z38 z39 z40 z41 hl_109
                obtain ⟨v42, ev42, tv42⟩ : ∃ v : Int32, Int32.ofInt (0) = v ∧ v.toInt = 0 := ⟨_, rfl, by decide +kernel⟩
                refine lv_iconst hx hb dX10_freeSlot_109 ev42 ?_
                exact J110 v42 H_109 k_109 l_109 S_109 (by omega) (by omega) (by omega) (by omega) (by omega) (by omega) (by omega) (by omega) (Or.inl z41) (lv_sub hl_109 [0, 1, 2, 3] rfl)
              refine lv_iload hx hb dX10_freeSlot_65 (lv_at hl_65 4 rfl) ?_
              refine lv_aload_n hx hb dX10_freeSlot_67 rfl (lv_at hl_65 0 rfl) ?_
              refine tr_getr Z.1 Z.2.2.2.1 S_65.1 S_65.2 ha0 ta0 rfl rfl (fun _ h => List.mem_cons_of_mem _ (List.mem_append_right _ h)) 1 (by decide) rfl (hts _ (List.mem_of_getElem? (i := 3) rfl)) dX10_freeSlot_68 (fun q43 eq43 hq43 tq43 => ?_)
              have tq43 : τ q43 = (61, 0) := tq43
              have uq43 : qp = q43 := S_65.2.2.2.2 _ hqp _ hq43 (tqp.trans tq43.symm) (by rw [tqp]; rfl)
              subst uq43
              obtain ⟨v44, ev44, tv44⟩ : ∃ v : Int32, (Int8.ofInt (53)).toInt32 = v ∧ v.toInt = 53 := ⟨_, rfl, by decide +kernel⟩
              refine lv_bipush hx hb dX10_freeSlot_71 ev44 ?_
              refine lv_iload_n hx hb dX10_freeSlot_73 rfl (lv_at hl_65 3 rfl) ?_
              refine lv_imul hx hb dX10_freeSlot_74 ?_
              refine lv_topi (fun v45 ev45 => ?_)
              have tv45 := nu_mulc' (53) ev45 (by omega) (by omega) (by omega)
              obtain ⟨v46, ev46, tv46⟩ : ∃ v : Int32, (Int8.ofInt (44)).toInt32 = v ∧ v.toInt = 44 := ⟨_, rfl, by decide +kernel⟩
              refine lv_bipush hx hb dX10_freeSlot_75 ev46 ?_
              refine lv_iadd hx hb dX10_freeSlot_77 ?_
              refine lv_topi (fun v47 ev47 => ?_)
              have tv47 := nu_add ev47 (by omega) (by omega)
              refine tr_ialdx Z.1 Z.2.2.2.1 S_65.1 S_65.2 hqp tqp rfl (by omega) (by omega) dX10_freeSlot_78 (fun v48 ev48 lv48 uv48 => ?_)
              have bv48 : pastB v47.toNatClampNeg = (0, 8) := (pb_44 (by omega) (by omega))
              rw [bv48] at lv48 uv48
              have lv48 : 0 ≤ v48.toInt := lv48
              have uv48 : v48.toInt ≤ 8 := uv48
              refine lv_icmp_ge (tgt := 117) hx hb dX10_freeSlot_79 (by decide) (fun c49 => ?_) (fun c49 => ?_)
              · skip
                have tc49 := nu_le c49
                obtain ⟨v50, ev50⟩ : ∃ y : Int32, x3_54 + Int32.ofInt (1) = y := ⟨_, rfl⟩
                have tv50 : v50.toInt = x3_54.toInt + (1) := by rw [← ev50]; exact (fb_addI (by rw [show (Int32.ofInt (1)).toInt = 1 from by decide +kernel]; omega) (by rw [show (Int32.ofInt (1)).toInt = 1 from by decide +kernel]; omega)).trans (by rw [show (Int32.ofInt (1)).toInt = 1 from by decide +kernel])
                refine lv_iinc (v := v50) (lv' := [(3, .int v50), (0, .ref a0), (1, .int x1_2), (2, .int x2_65), (4, .int x4_65)]) hx hb dX10_freeSlot_117 hl_65 (k := 3) rfl ev50 (by decide) rfl (fun l51 hl52 => ?_)
                refine lv_goto (tgt := 54) hx hb dX10_freeSlot_120 (by decide) ?_
                exact ih_54 x2_65 v50 H_65 k_65 l51 S_65 (by omega) (by omega) (by omega) (by omega) (by omega) (by omega) z19 (by omega) (lv_sub hl52 [1, 2, 3, 0] rfl)
              · skip
                have tc49 := nu_nle c49
                refine lv_iload_n hx hb dX10_freeSlot_82 rfl (lv_at hl_65 2 rfl) ?_
                refine lv_if_eq (tgt := 109) hx hb dX10_freeSlot_83 (by decide) (fun c53 => ?_) (fun c53 => ?_)
                · skip
                  have tc53 := nu_eq c53
                  have uc53 : (0 : Int32).toInt = 0 := rfl
                  exact J109 H_65 k_65 l_65 S_65 (by omega) (by omega) (by omega) (by omega) (by omega) (by omega) (z19.resolve_right (by omega)) (lv_sub hl_65 [0, 1, 3, 4] rfl)
                · skip
                  have tc53 := nu_ne c53
                  have uc53 : (0 : Int32).toInt = 0 := rfl
                  refine lv_aload_n hx hb dX10_freeSlot_86 rfl (lv_at hl_65 0 rfl) ?_
                  refine tr_getr Z.1 Z.2.2.2.1 S_65.1 S_65.2 ha0 ta0 rfl rfl (fun _ h => List.mem_cons_of_mem _ (List.mem_append_right _ h)) 1 (by decide) rfl (hts _ (List.mem_of_getElem? (i := 3) rfl)) dX10_freeSlot_87 (fun q54 eq54 hq54 tq54 => ?_)
                  have tq54 : τ q54 = (61, 0) := tq54
                  have uq54 : qp = q54 := S_65.2.2.2.2 _ hqp _ hq54 (tqp.trans tq54.symm) (by rw [tqp]; rfl)
                  subst uq54
                  obtain ⟨v55, ev55, tv55⟩ : ∃ v : Int32, (Int8.ofInt (53)).toInt32 = v ∧ v.toInt = 53 := ⟨_, rfl, by decide +kernel⟩
                  refine lv_bipush hx hb dX10_freeSlot_90 ev55 ?_
                  refine lv_iload_n hx hb dX10_freeSlot_92 rfl (lv_at hl_65 3 rfl) ?_
                  refine lv_imul hx hb dX10_freeSlot_93 ?_
                  refine lv_topi (fun v56 ev56 => ?_)
                  have tv56 := nu_mulc' (53) ev56 (by omega) (by omega) (by omega)
                  obtain ⟨v57, ev57, tv57⟩ : ∃ v : Int32, (Int8.ofInt (45)).toInt32 = v ∧ v.toInt = 45 := ⟨_, rfl, by decide +kernel⟩
                  refine lv_bipush hx hb dX10_freeSlot_94 ev57 ?_
                  refine lv_iadd hx hb dX10_freeSlot_96 ?_
                  refine lv_topi (fun v58 ev58 => ?_)
                  have tv58 := nu_add ev58 (by omega) (by omega)
                  refine lv_iload hx hb dX10_freeSlot_97 (lv_at hl_65 4 rfl) ?_
                  refine lv_iadd hx hb dX10_freeSlot_99 ?_
                  refine lv_topi (fun v59 ev59 => ?_)
                  have tv59 := nu_add ev59 (by omega) (by omega)
                  refine tr_ialdx Z.1 Z.2.2.2.1 S_65.1 S_65.2 hqp tqp rfl (by omega) (by omega) dX10_freeSlot_100 (fun v60 ev60 lv60 uv60 => ?_)
                  refine lv_iload_n hx hb dX10_freeSlot_101 rfl (lv_at hl_65 1 rfl) ?_
                  refine lv_icmp_eq (tgt := 109) hx hb dX10_freeSlot_102 (by decide) (fun c61 => ?_) (fun c61 => ?_)
                  · skip
                    have tc61 := nu_eq c61
                    exact J109 H_65 k_65 l_65 S_65 (by omega) (by omega) (by omega) (by omega) (by omega) (by omega) (Or.inr ⟨x3_54.toInt.toNat, by omega, x4_65.toInt.toNat, by omega, by show _ < (ai E qp (53 * x3_54.toInt.toNat + 44)).toInt; rw [show 53 * x3_54.toInt.toNat + 44 = v47.toNatClampNeg from by show _ = v47.toInt.toNat; omega, ev48]; omega, by show ai E qp (53 * x3_54.toInt.toNat + (45 + x4_65.toInt.toNat)) = _; rw [show 53 * x3_54.toInt.toNat + (45 + x4_65.toInt.toNat) = v59.toNatClampNeg from by show _ = v59.toInt.toNat; omega, ev60]; exact ((fa_eq v60 x1_2).mpr (by omega))⟩) (lv_sub hl_65 [0, 1, 3, 4] rfl)
                  · skip
                    have tc61 := nu_ne c61
                    obtain ⟨v62, ev62, tv62⟩ : ∃ v : Int32, Int32.ofInt (1) = v ∧ v.toInt = 1 := ⟨_, rfl, by decide +kernel⟩
                    refine lv_iconst hx hb dX10_freeSlot_105 ev62 ?_
                    refine lv_goto (tgt := 110) hx hb dX10_freeSlot_106 (by decide) ?_
                    exact J110 v62 H_65 k_65 l_65 S_65 (by omega) (by omega) (by omega) (by omega) (by omega) (by omega) (by omega) (by omega) (Or.inr (by omega)) (lv_sub hl_65 [0, 1, 3, 4] rfl)
          refine lv_iload_n hx hb dX10_freeSlot_54 rfl (lv_at hl_54 3 rfl) ?_
          refine lv_aload_n hx hb dX10_freeSlot_55 rfl (lv_at hl_54 0 rfl) ?_
          refine tr_geti Z.1 Z.2.2.2.1 S_54.1 S_54.2 ha0 ta0 rfl rfl (fun _ h => List.mem_cons_of_mem _ (List.mem_append_right _ h)) 2 (by decide) rfl (hts _ (List.mem_of_getElem? (i := 2) rfl)) dX10_freeSlot_56 (fun v63 ev63 lv63 uv63 => ?_)
          refine lv_icmp_ge (tgt := 123) hx hb dX10_freeSlot_59 (by decide) (fun c64 => ?_) (fun c64 => ?_)
          · skip
            have tc64 := nu_le c64
            refine lv_iload_n hx hb dX10_freeSlot_123 rfl (lv_at hl_54 2 rfl) ?_
            refine lv_if_eq (tgt := 129) hx hb dX10_freeSlot_124 (by decide) (fun c65 => ?_) (fun c65 => ?_)
            · skip
              have tc65 := nu_eq c65
              have uc65 : (0 : Int32).toInt = 0 := rfl
              obtain ⟨v66, ev66⟩ : ∃ y : Int32, x1_2 + Int32.ofInt (1) = y := ⟨_, rfl⟩
              have tv66 : v66.toInt = x1_2.toInt + (1) := by rw [← ev66]; exact (fb_addI (by rw [show (Int32.ofInt (1)).toInt = 1 from by decide +kernel]; omega) (by rw [show (Int32.ofInt (1)).toInt = 1 from by decide +kernel]; omega)).trans (by rw [show (Int32.ofInt (1)).toInt = 1 from by decide +kernel])
              refine lv_iinc (v := v66) (lv' := [(1, .int v66), (0, .ref a0), (2, .int x2_54), (3, .int x3_54)]) hx hb dX10_freeSlot_129 hl_54 (k := 1) rfl ev66 (by decide) rfl (fun l67 hl68 => ?_)
              refine lv_goto (tgt := 2) hx hb dX10_freeSlot_132 (by decide) ?_
              exact ih_2 v66 H_54 k_54 l67 S_54 (by omega) (by omega) (fs_next z3 (z10.resolve_right (by omega)) (by omega)) (by omega) (lv_sub hl68 [1, 0] rfl)
            · skip
              have tc65 := nu_ne c65
              have uc65 : (0 : Int32).toInt = 0 := rfl
              refine lv_iload_n hx hb dX10_freeSlot_127 rfl (lv_at hl_54 1 rfl) ?_
              rw [← hQ]
              exact en_i Z S_54 F0_ ⟨rfl, (by omega), (by omega)⟩ dX10_freeSlot_128
          · skip
            have tc64 := nu_nle c64
            obtain ⟨v69, ev69, tv69⟩ : ∃ v : Int32, Int32.ofInt (0) = v ∧ v.toInt = 0 := ⟨_, rfl, by decide +kernel⟩
            refine lv_iconst hx hb dX10_freeSlot_62 ev69 ?_
            refine lv_istore (lv' := [(4, .int v69), (0, .ref a0), (1, .int x1_2), (2, .int x2_54), (3, .int x3_54)]) hx hb dX10_freeSlot_63 hl_54 (by decide) rfl (fun l70 hl71 => ?_)
            exact J65 _ x2_54 v69 H_54 k_54 l70 S_54 (by omega) (by omega) (by omega) (by omega) (by omega) (by omega) (by omega) (by omega) z10 (by rw [ev63]; omega) (Nat.lt_succ_self _) (lv_sub hl71 [1, 2, 3, 4, 0] rfl)
      have J12 : ∀ (n : Nat) (x2_12 : Int32) (x3_12 : Int32) (H_12 : Heap) (k_12 : List Loc) (l_12 : Array Slot), Now D TB cy (va_A (va_pl L E) sz) s L τ E H_12 k_12 → (0 ≤ x1_2.toInt) → (x1_2.toInt ≤ 49) → (0 ≤ x2_12.toInt) → (x2_12.toInt ≤ 1) → (0 ≤ x3_12.toInt) → (x3_12.toInt ≤ 8) → (Used E a0 qn qp x1_2 ∨ x2_12.toInt = 1) → (8 - x3_12.toInt).toNat < n → lv_has l_12 5 [(0, .ref a0), (1, .int x1_2), (2, .int x2_12), (3, .int x3_12)] → W p l e { frames := 0, cells := 0, slots := 0, locals := 0 } s m args below meth c H_12 k_12 0 0 QQ (F0 m 12 l_12 []) := by
        intro n
        induction n with
        | zero => intro x2_12 x3_12 H_12 k_12 l_12 S_12 z72 z73 z74 z75 z76 z77 z78 hm hl_12; exact absurd hm (Nat.not_lt_zero _)
        | succ n ih =>
          intro x2_12 x3_12 H_12 k_12 l_12 S_12 z72 z73 z74 z75 z76 z77 z78 hm hl_12
          have ih_12 := ih
          have J45 : ∀ (y0_45 : Int32) (H_45 : Heap) (k_45 : List Loc) (l_45 : Array Slot), Now D TB cy (va_A (va_pl L E) sz) s L τ E H_45 k_45 → (0 ≤ x1_2.toInt) → (x1_2.toInt ≤ 49) → (0 ≤ x3_12.toInt) → (x3_12.toInt ≤ 7) → (0 ≤ y0_45.toInt) → (y0_45.toInt ≤ 1) → (Used E a0 qn qp x1_2 ∨ y0_45.toInt = 1) → lv_has l_45 5 [(0, .ref a0), (1, .int x1_2), (3, .int x3_12)] → W p l e { frames := 0, cells := 0, slots := 0, locals := 0 } s m args below meth c H_45 k_45 0 0 QQ (F0 m 45 l_45 [.int y0_45]) := by
            intro y0_45 H_45 k_45 l_45 S_45 z79 z80 z81 z82 z83 z84 z85 hl_45
            refine lv_istore_n (lv' := [(2, .int y0_45), (0, .ref a0), (1, .int x1_2), (3, .int x3_12)]) hx hb dX10_freeSlot_45 rfl hl_45 (by decide) rfl (fun l86 hl87 => ?_)
            obtain ⟨v88, ev88⟩ : ∃ y : Int32, x3_12 + Int32.ofInt (1) = y := ⟨_, rfl⟩
            have tv88 : v88.toInt = x3_12.toInt + (1) := by rw [← ev88]; exact (fb_addI (by rw [show (Int32.ofInt (1)).toInt = 1 from by decide +kernel]; omega) (by rw [show (Int32.ofInt (1)).toInt = 1 from by decide +kernel]; omega)).trans (by rw [show (Int32.ofInt (1)).toInt = 1 from by decide +kernel])
            refine lv_iinc (v := v88) (lv' := [(3, .int v88), (2, .int y0_45), (0, .ref a0), (1, .int x1_2)]) hx hb dX10_freeSlot_46 hl87 (k := 3) rfl ev88 (by decide) rfl (fun l89 hl90 => ?_)
            refine lv_goto (tgt := 12) hx hb dX10_freeSlot_49 (by decide) ?_
            exact ih_12 y0_45 v88 H_45 k_45 l89 S_45 (by omega) (by omega) (by omega) (by omega) (by omega) (by omega) z85 (by omega) (lv_sub hl90 [2, 3, 1, 0] rfl)
          have J44 : ∀  (H_44 : Heap) (k_44 : List Loc) (l_44 : Array Slot), Now D TB cy (va_A (va_pl L E) sz) s L τ E H_44 k_44 → (0 ≤ x1_2.toInt) → (x1_2.toInt ≤ 49) → (0 ≤ x3_12.toInt) → (x3_12.toInt ≤ 7) → (Used E a0 qn qp x1_2 ) → lv_has l_44 5 [(0, .ref a0), (1, .int x1_2), (3, .int x3_12)] → W p l e { frames := 0, cells := 0, slots := 0, locals := 0 } s m args below meth c H_44 k_44 0 0 QQ (F0 m 44 l_44 []) := by
            intro  H_44 k_44 l_44 S_44 z91 z92 z93 z94 z95 hl_44
            obtain ⟨v96, ev96, tv96⟩ : ∃ v : Int32, Int32.ofInt (0) = v ∧ v.toInt = 0 := ⟨_, rfl, by decide +kernel⟩
            refine lv_iconst hx hb dX10_freeSlot_44 ev96 ?_
            exact J45 v96 H_44 k_44 l_44 S_44 (by omega) (by omega) (by omega) (by omega) (by omega) (by omega) (Or.inl z95) (lv_sub hl_44 [0, 1, 2] rfl)
          refine lv_iload_n hx hb dX10_freeSlot_12 rfl (lv_at hl_12 3 rfl) ?_
          refine lv_aload_n hx hb dX10_freeSlot_13 rfl (lv_at hl_12 0 rfl) ?_
          refine tr_getr Z.1 Z.2.2.2.1 S_12.1 S_12.2 ha0 ta0 rfl rfl (fun _ h => List.mem_cons_of_mem _ (List.mem_append_right _ h)) 0 (by decide) rfl (hts _ (List.mem_of_getElem? (i := 1) rfl)) dX10_freeSlot_14 (fun q97 eq97 hq97 tq97 => ?_)
          have tq97 : τ q97 = (60, 0) := tq97
          have uq97 : qn = q97 := S_12.2.2.2.2 _ hqn _ hq97 (tqn.trans tq97.symm) (by rw [tqn]; rfl)
          subst uq97
          obtain ⟨v98, ev98, tv98⟩ : ∃ v : Int32, (Int8.ofInt (44)).toInt32 = v ∧ v.toInt = 44 := ⟨_, rfl, by decide +kernel⟩
          refine lv_bipush hx hb dX10_freeSlot_17 ev98 ?_
          refine tr_ialdx Z.1 Z.2.2.2.1 S_12.1 S_12.2 hqn tqn rfl (by omega) (by omega) dX10_freeSlot_19 (fun v99 ev99 lv99 uv99 => ?_)
          have bv99 : nowB v98.toNatClampNeg = (0, 8) := nb_44 (by show v98.toInt.toNat = 44; omega)
          rw [bv99] at lv99 uv99
          have lv99 : 0 ≤ v99.toInt := lv99
          have uv99 : v99.toInt ≤ 8 := uv99
          have av99 : ai E qn 44 = v99 := ai_at ev99 (by omega)
          refine lv_icmp_ge (tgt := 52) hx hb dX10_freeSlot_20 (by decide) (fun c100 => ?_) (fun c100 => ?_)
          · skip
            have tc100 := nu_le c100
            obtain ⟨v101, ev101, tv101⟩ : ∃ v : Int32, Int32.ofInt (0) = v ∧ v.toInt = 0 := ⟨_, rfl, by decide +kernel⟩
            refine lv_iconst hx hb dX10_freeSlot_52 ev101 ?_
            refine lv_istore_n (lv' := [(3, .int v101), (0, .ref a0), (1, .int x1_2), (2, .int x2_12)]) hx hb dX10_freeSlot_53 rfl hl_12 (by decide) rfl (fun l102 hl103 => ?_)
            exact J54 _ x2_12 v101 H_12 k_12 l102 S_12 (by omega) (by omega) (by omega) (by omega) (by omega) (by omega) z78 (Nat.lt_succ_self _) (lv_sub hl103 [1, 2, 3, 0] rfl)
          · skip
            have tc100 := nu_nle c100
            refine lv_iload_n hx hb dX10_freeSlot_23 rfl (lv_at hl_12 2 rfl) ?_
            refine lv_if_eq (tgt := 44) hx hb dX10_freeSlot_24 (by decide) (fun c104 => ?_) (fun c104 => ?_)
            · skip
              have tc104 := nu_eq c104
              have uc104 : (0 : Int32).toInt = 0 := rfl
              exact J44 H_12 k_12 l_12 S_12 (by omega) (by omega) (by omega) (by omega) (z78.resolve_right (by omega)) (lv_sub hl_12 [0, 1, 3] rfl)
            · skip
              have tc104 := nu_ne c104
              have uc104 : (0 : Int32).toInt = 0 := rfl
              refine lv_aload_n hx hb dX10_freeSlot_27 rfl (lv_at hl_12 0 rfl) ?_
              refine tr_getr Z.1 Z.2.2.2.1 S_12.1 S_12.2 ha0 ta0 rfl rfl (fun _ h => List.mem_cons_of_mem _ (List.mem_append_right _ h)) 0 (by decide) rfl (hts _ (List.mem_of_getElem? (i := 1) rfl)) dX10_freeSlot_28 (fun q105 eq105 hq105 tq105 => ?_)
              have tq105 : τ q105 = (60, 0) := tq105
              have uq105 : qn = q105 := S_12.2.2.2.2 _ hqn _ hq105 (tqn.trans tq105.symm) (by rw [tqn]; rfl)
              subst uq105
              obtain ⟨v106, ev106, tv106⟩ : ∃ v : Int32, (Int8.ofInt (45)).toInt32 = v ∧ v.toInt = 45 := ⟨_, rfl, by decide +kernel⟩
              refine lv_bipush hx hb dX10_freeSlot_31 ev106 ?_
              refine lv_iload_n hx hb dX10_freeSlot_33 rfl (lv_at hl_12 3 rfl) ?_
              refine lv_iadd hx hb dX10_freeSlot_34 ?_
              refine lv_topi (fun v107 ev107 => ?_)
              have tv107 := nu_add ev107 (by omega) (by omega)
              refine tr_ialdx Z.1 Z.2.2.2.1 S_12.1 S_12.2 hqn tqn rfl (by omega) (by omega) dX10_freeSlot_35 (fun v108 ev108 lv108 uv108 => ?_)
              have bv108 : nowB v107.toNatClampNeg = (0, 49) := nb_45 (by show 45 ≤ v107.toInt.toNat ∧ v107.toInt.toNat ≤ 52; omega)
              rw [bv108] at lv108 uv108
              have lv108 : 0 ≤ v108.toInt := lv108
              have uv108 : v108.toInt ≤ 49 := uv108
              refine lv_iload_n hx hb dX10_freeSlot_36 rfl (lv_at hl_12 1 rfl) ?_
              refine lv_icmp_eq (tgt := 44) hx hb dX10_freeSlot_37 (by decide) (fun c109 => ?_) (fun c109 => ?_)
              · skip
                have tc109 := nu_eq c109
                exact J44 H_12 k_12 l_12 S_12 (by omega) (by omega) (by omega) (by omega) (Or.inl ⟨x3_12.toInt.toNat, by omega, by rw [av99]; omega, by rw [show 45 + x3_12.toInt.toNat = v107.toNatClampNeg from by show 45 + x3_12.toInt.toNat = v107.toInt.toNat; omega, ev108]; exact ((fa_eq v108 x1_2).mpr (by omega))⟩) (lv_sub hl_12 [0, 1, 3] rfl)
              · skip
                have tc109 := nu_ne c109
                obtain ⟨v110, ev110, tv110⟩ : ∃ v : Int32, Int32.ofInt (1) = v ∧ v.toInt = 1 := ⟨_, rfl, by decide +kernel⟩
                refine lv_iconst hx hb dX10_freeSlot_40 ev110 ?_
                refine lv_goto (tgt := 45) hx hb dX10_freeSlot_41 (by decide) ?_
                exact J45 v110 H_12 k_12 l_12 S_12 (by omega) (by omega) (by omega) (by omega) (by omega) (by omega) (Or.inr (by omega)) (lv_sub hl_12 [0, 1, 3] rfl)
      refine lv_iload_n hx hb dX10_freeSlot_2 rfl (lv_at hl_2 1 rfl) ?_
      obtain ⟨v111, ev111, tv111⟩ : ∃ v : Int32, (Int8.ofInt (50)).toInt32 = v ∧ v.toInt = 50 := ⟨_, rfl, by decide +kernel⟩
      refine lv_bipush hx hb dX10_freeSlot_3 ev111 ?_
      refine lv_icmp_ge (tgt := 135) hx hb dX10_freeSlot_5 (by decide) (fun c112 => ?_) (fun c112 => ?_)
      · skip
        have tc112 := nu_le c112
        exact (Used.not_all (hC a0 ha0 ta0 qn hqn tqn qp hqp tqp) (fi_rng hI ha0 ta0 rfl rfl).2 (fun y h1 h2 => z3 y h1 (by omega))).elim
      · skip
        have tc112 := nu_nle c112
        obtain ⟨v113, ev113, tv113⟩ : ∃ v : Int32, Int32.ofInt (1) = v ∧ v.toInt = 1 := ⟨_, rfl, by decide +kernel⟩
        refine lv_iconst hx hb dX10_freeSlot_8 ev113 ?_
        refine lv_istore_n (lv' := [(2, .int v113), (0, .ref a0), (1, .int x1_2)]) hx hb dX10_freeSlot_9 rfl hl_2 (by decide) rfl (fun l114 hl115 => ?_)
        obtain ⟨v116, ev116, tv116⟩ : ∃ v : Int32, Int32.ofInt (0) = v ∧ v.toInt = 0 := ⟨_, rfl, by decide +kernel⟩
        refine lv_iconst hx hb dX10_freeSlot_10 ev116 ?_
        refine lv_istore_n (lv' := [(3, .int v116), (2, .int v113), (0, .ref a0), (1, .int x1_2)]) hx hb dX10_freeSlot_11 rfl hl115 (by decide) rfl (fun l117 hl118 => ?_)
        exact J12 _ v113 v116 H_2 k_2 l117 S_2 (by omega) (by omega) (by omega) (by omega) (by omega) (by omega) (Or.inr (by omega)) (Nat.lt_succ_self _) (lv_sub hl118 [2, 3, 1, 0] rfl)
  obtain ⟨v119, ev119, tv119⟩ : ∃ v : Int32, Int32.ofInt (0) = v ∧ v.toInt = 0 := ⟨_, rfl, by decide +kernel⟩
  refine lv_iconst hx hb dX10_freeSlot_0 ev119 ?_
  refine lv_istore_n (lv' := [(1, .int v119), (0, .ref a0)]) hx hb dX10_freeSlot_1 rfl hl (by decide) rfl (fun l120 hl121 => ?_)
  exact J2 _ v119 s.heap [] l120 S0 (by omega) (by omega) (fun y h1 h2 => by omega) (Nat.lt_succ_self _) (lv_sub hl121 [1, 0] rfl)

set_option maxRecDepth 20000 in
theorem ggX10_sumOf_X10_valueOf : GoodIn wsX10_sumOf wsX10_valueOf := goodIn_r _ [8, 9, 10, 11, 12, 13, 14, 15, 16, 17, 18, 19, 20, 21, 22, 23, 24, 25, 26, 27, 28, 29, 30, 31, 32, 33, 34, 35, 36, 37, 38, 39, 40, 41, 42, 43, 44, 45, 46, 47, 48, 49, 50, 51, 52, 53, 54, 55, 56, 57, 58, 59, 60, 61, 62, 63] (by decide +kernel) (by decide +kernel)
set_option maxRecDepth 20000 in
theorem gX10_sumOf_X10_valueOf : GoodIn wsX10_sumOf (wsV RX10 212 RX10 yX10_valueOf wsX10_valueOf) := goodIn_app (goodIn_of _ (by decide +kernel)) ggX10_sumOf_X10_valueOf
theorem dX10_sumOf_0 : decode cX10_sumOf 0 = .ok (.iconst 0, 1) := by decide +kernel
theorem dX10_sumOf_1 : decode cX10_sumOf 1 = .ok (.istore 4, 2) := by decide +kernel
theorem dX10_sumOf_3 : decode cX10_sumOf 3 = .ok (.iconst 0, 1) := by decide +kernel
theorem dX10_sumOf_4 : decode cX10_sumOf 4 = .ok (.istore 5, 2) := by decide +kernel
theorem dX10_sumOf_6 : decode cX10_sumOf 6 = .ok (.iload 5, 2) := by decide +kernel
theorem dX10_sumOf_8 : decode cX10_sumOf 8 = .ok (.aload_n 0, 1) := by decide +kernel
theorem dX10_sumOf_9 : decode cX10_sumOf 9 = .ok (.getfield 67, 3) := by decide +kernel
theorem dX10_sumOf_12 : decode cX10_sumOf 12 = .ok (.bipush 8, 2) := by decide +kernel
theorem dX10_sumOf_14 : decode cX10_sumOf 14 = .ok (.iload_n 1, 1) := by decide +kernel
theorem dX10_sumOf_15 : decode cX10_sumOf 15 = .ok (.imul, 1) := by decide +kernel
theorem dX10_sumOf_16 : decode cX10_sumOf 16 = .ok (.iload_n 2, 1) := by decide +kernel
theorem dX10_sumOf_17 : decode cX10_sumOf 17 = .ok (.iadd, 1) := by decide +kernel
theorem dX10_sumOf_18 : decode cX10_sumOf 18 = .ok (.iaload, 1) := by decide +kernel
theorem dX10_sumOf_19 : decode cX10_sumOf 19 = .ok (.if_icmp .ge 54, 3) := by decide +kernel
theorem dX10_sumOf_22 : decode cX10_sumOf 22 = .ok (.iload 4, 2) := by decide +kernel
theorem dX10_sumOf_24 : decode cX10_sumOf 24 = .ok (.aload_n 0, 1) := by decide +kernel
theorem dX10_sumOf_25 : decode cX10_sumOf 25 = .ok (.getfield 70, 3) := by decide +kernel
theorem dX10_sumOf_28 : decode cX10_sumOf 28 = .ok (.bipush 64, 2) := by decide +kernel
theorem dX10_sumOf_30 : decode cX10_sumOf 30 = .ok (.iload_n 1, 1) := by decide +kernel
theorem dX10_sumOf_31 : decode cX10_sumOf 31 = .ok (.imul, 1) := by decide +kernel
theorem dX10_sumOf_32 : decode cX10_sumOf 32 = .ok (.bipush 8, 2) := by decide +kernel
theorem dX10_sumOf_34 : decode cX10_sumOf 34 = .ok (.iload_n 2, 1) := by decide +kernel
theorem dX10_sumOf_35 : decode cX10_sumOf 35 = .ok (.imul, 1) := by decide +kernel
theorem dX10_sumOf_36 : decode cX10_sumOf 36 = .ok (.iadd, 1) := by decide +kernel
theorem dX10_sumOf_37 : decode cX10_sumOf 37 = .ok (.iload 5, 2) := by decide +kernel
theorem dX10_sumOf_39 : decode cX10_sumOf 39 = .ok (.iadd, 1) := by decide +kernel
theorem dX10_sumOf_40 : decode cX10_sumOf 40 = .ok (.iaload, 1) := by decide +kernel
theorem dX10_sumOf_41 : decode cX10_sumOf 41 = .ok (.aload_n 0, 1) := by decide +kernel
theorem dX10_sumOf_42 : decode cX10_sumOf 42 = .ok (.aload_n 0, 1) := by decide +kernel
theorem dX10_sumOf_43 : decode cX10_sumOf 43 = .ok (.getfield 73, 3) := by decide +kernel
theorem dX10_sumOf_46 : decode cX10_sumOf 46 = .ok (.bipush 64, 2) := by decide +kernel
theorem dX10_sumOf_48 : decode cX10_sumOf 48 = .ok (.iload_n 1, 1) := by decide +kernel
theorem dX10_sumOf_49 : decode cX10_sumOf 49 = .ok (.imul, 1) := by decide +kernel
theorem dX10_sumOf_50 : decode cX10_sumOf 50 = .ok (.bipush 8, 2) := by decide +kernel
theorem dX10_sumOf_52 : decode cX10_sumOf 52 = .ok (.iload_n 2, 1) := by decide +kernel
theorem dX10_sumOf_53 : decode cX10_sumOf 53 = .ok (.imul, 1) := by decide +kernel
theorem dX10_sumOf_54 : decode cX10_sumOf 54 = .ok (.iadd, 1) := by decide +kernel
theorem dX10_sumOf_55 : decode cX10_sumOf 55 = .ok (.iload 5, 2) := by decide +kernel
theorem dX10_sumOf_57 : decode cX10_sumOf 57 = .ok (.iadd, 1) := by decide +kernel
theorem dX10_sumOf_58 : decode cX10_sumOf 58 = .ok (.iaload, 1) := by decide +kernel
theorem dX10_sumOf_59 : decode cX10_sumOf 59 = .ok (.iload_n 3, 1) := by decide +kernel
theorem dX10_sumOf_60 : decode cX10_sumOf 60 = .ok (.invokevirtual 212, 3) := by decide +kernel
theorem dX10_sumOf_63 : decode cX10_sumOf 63 = .ok (.imul, 1) := by decide +kernel
theorem dX10_sumOf_64 : decode cX10_sumOf 64 = .ok (.iadd, 1) := by decide +kernel
theorem dX10_sumOf_65 : decode cX10_sumOf 65 = .ok (.istore 4, 2) := by decide +kernel
theorem dX10_sumOf_67 : decode cX10_sumOf 67 = .ok (.iinc 5 1, 3) := by decide +kernel
theorem dX10_sumOf_70 : decode cX10_sumOf 70 = .ok (.goto (-64), 3) := by decide +kernel
theorem dX10_sumOf_73 : decode cX10_sumOf 73 = .ok (.iload 4, 2) := by decide +kernel
theorem dX10_sumOf_75 : decode cX10_sumOf 75 = .ok (.ireturn, 1) := by decide +kernel
set_option maxHeartbeats 4000000 in
set_option maxRecDepth 100000 in
theorem k_X10_sumOf (l : Launch) (D : va_G) (cy : Nat → ClassId) {L : List Nat} {τ : Nat → Ro} {E : Ec} (hI : Inv TB cy L τ E) {a0 : Nat} (ha0 : a0 ∈ L) (ta0 : τ a0 = (11, 0)) (a1 : Int32) (la1 : 0 ≤ a1.toInt) (ua1 : a1.toInt ≤ 49) (a2 : Int32) (la2 : 0 ≤ a2.toInt) (ua2 : a2.toInt ≤ 7) (a3 : Int32) (la3 : 0 ≤ a3.toInt) (ua3 : a3.toInt ≤ 65) {ql : Nat} (hql : ql ∈ L) (tql : τ ql = (75, 0)) {qr : Nat} (hqr : qr ∈ L) (tqr : τ qr = (76, 0)) {qm : Nat} (hqm : qm ∈ L) (tqm : τ qm = (77, 0)) {qd : Nat} (hqd : qd ∈ L) (tqd : τ qd = (79, 0)) (hw : a2.toInt < 2 * (ai E qr a1.toInt.toNat).toInt) (hk : a3.toInt + (ai E ql a1.toInt.toNat).toInt ≤ 65) (hS : SlotOK L τ E) : CtI l yX10_sumOf wsX10_sumOf { frames := 1, cells := 0, slots := 0, locals := 23 } D TB cy L τ E [.ref a0, .int a1, .int a2, .int a3] (inW []) (fun r E' => E' = E) := by
  intro sz
  refine sta (cc := cX10_sumOf) (maxL := 6) hI (by decide) rfl (Nat.le_of_ble_eq_true rfl) (fun p e s m args below meth c ls hsz Z S0 hl => ?_)
  have hx := Z.1.1
  have hb := Z.1.2.1
  have hts := Z.1.2.2.2.2
  have F0_ : Fr L τ (inW []) E E := Fr.refl
  have hl : lv_has ls 6 [(0, .ref a0), (1, .int a1), (2, .int a2), (3, .int a3)] := hl
  generalize hQ : MQ below _ args s 0 0 _ = QQ
  have J6 : ∀ (n : Nat) (x4_6 : Int32) (x5_6 : Int32) (H_6 : Heap) (k_6 : List Loc) (l_6 : Array Slot), Now D TB cy (va_A (va_pl L E) sz) s L τ E H_6 k_6 → (0 ≤ a1.toInt) → (a1.toInt ≤ 49) → (0 ≤ a2.toInt) → (a2.toInt ≤ 7) → (0 ≤ a3.toInt) → (a3.toInt ≤ 65) → (0 ≤ x5_6.toInt) → (x5_6.toInt ≤ 8) → (8 - x5_6.toInt).toNat < n → lv_has l_6 6 [(0, .ref a0), (1, .int a1), (2, .int a2), (3, .int a3), (4, .int x4_6), (5, .int x5_6)] → W p l e { frames := 1, cells := 0, slots := 0, locals := 23 } s m args below meth c H_6 k_6 0 0 QQ (F0 m 6 l_6 []) := by
    intro n
    induction n with
    | zero => intro x4_6 x5_6 H_6 k_6 l_6 S_6 z1 z2 z3 z4 z5 z6 z7 z8 hm hl_6; exact absurd hm (Nat.not_lt_zero _)
    | succ n ih =>
      intro x4_6 x5_6 H_6 k_6 l_6 S_6 z1 z2 z3 z4 z5 z6 z7 z8 hm hl_6
      have ih_6 := ih
      refine lv_iload hx hb dX10_sumOf_6 (lv_at hl_6 5 rfl) ?_
      refine lv_aload_n hx hb dX10_sumOf_8 rfl (lv_at hl_6 0 rfl) ?_
      refine tr_getr Z.1 Z.2.2.2.1 S_6.1 S_6.2 ha0 ta0 rfl rfl (fun _ h => List.mem_cons_of_mem _ (List.mem_append_right _ h)) 26 (by decide) rfl (hts _ (List.mem_of_getElem? (i := 1) rfl)) dX10_sumOf_9 (fun q9 eq9 hq9 tq9 => ?_)
      have tq9 : τ q9 = (77, 0) := tq9
      have uq9 : qm = q9 := S_6.2.2.2.2 _ hqm _ hq9 (tqm.trans tq9.symm) (by rw [tqm]; rfl)
      subst uq9
      obtain ⟨v10, ev10, tv10⟩ : ∃ v : Int32, (Int8.ofInt (8)).toInt32 = v ∧ v.toInt = 8 := ⟨_, rfl, by decide +kernel⟩
      refine lv_bipush hx hb dX10_sumOf_12 ev10 ?_
      refine lv_iload_n hx hb dX10_sumOf_14 rfl (lv_at hl_6 1 rfl) ?_
      refine lv_imul hx hb dX10_sumOf_15 ?_
      refine lv_topi (fun v11 ev11 => ?_)
      have tv11 := nu_mulc' (8) ev11 (by omega) (by omega) (by omega)
      refine lv_iload_n hx hb dX10_sumOf_16 rfl (lv_at hl_6 2 rfl) ?_
      refine lv_iadd hx hb dX10_sumOf_17 ?_
      refine lv_topi (fun v12 ev12 => ?_)
      have tv12 := nu_add ev12 (by omega) (by omega)
      refine tr_iald Z.1 Z.2.2.2.1 S_6.1 S_6.2 hqm tqm rfl (by omega) (by omega) dX10_sumOf_18 (fun v13 ev13 lv13 uv13 => ?_)
      refine lv_icmp_ge (tgt := 73) hx hb dX10_sumOf_19 (by decide) (fun c14 => ?_) (fun c14 => ?_)
      · skip
        have tc14 := nu_le c14
        refine lv_iload hx hb dX10_sumOf_73 (lv_at hl_6 4 rfl) ?_
        rw [← hQ]
        exact en_i Z S_6 F0_ rfl dX10_sumOf_75
      · skip
        have tc14 := nu_nle c14
        refine lv_iload hx hb dX10_sumOf_22 (lv_at hl_6 4 rfl) ?_
        refine lv_aload_n hx hb dX10_sumOf_24 rfl (lv_at hl_6 0 rfl) ?_
        refine tr_getr Z.1 Z.2.2.2.1 S_6.1 S_6.2 ha0 ta0 rfl rfl (fun _ h => List.mem_cons_of_mem _ (List.mem_append_right _ h)) 27 (by decide) rfl (hts _ (List.mem_of_getElem? (i := 2) rfl)) dX10_sumOf_25 (fun q15 eq15 hq15 tq15 => ?_)
        have tq15 : τ q15 = (78, 0) := tq15
        obtain ⟨v16, ev16, tv16⟩ : ∃ v : Int32, (Int8.ofInt (64)).toInt32 = v ∧ v.toInt = 64 := ⟨_, rfl, by decide +kernel⟩
        refine lv_bipush hx hb dX10_sumOf_28 ev16 ?_
        refine lv_iload_n hx hb dX10_sumOf_30 rfl (lv_at hl_6 1 rfl) ?_
        refine lv_imul hx hb dX10_sumOf_31 ?_
        refine lv_topi (fun v17 ev17 => ?_)
        have tv17 := nu_mulc' (64) ev17 (by omega) (by omega) (by omega)
        obtain ⟨v18, ev18, tv18⟩ : ∃ v : Int32, (Int8.ofInt (8)).toInt32 = v ∧ v.toInt = 8 := ⟨_, rfl, by decide +kernel⟩
        refine lv_bipush hx hb dX10_sumOf_32 ev18 ?_
        refine lv_iload_n hx hb dX10_sumOf_34 rfl (lv_at hl_6 2 rfl) ?_
        refine lv_imul hx hb dX10_sumOf_35 ?_
        refine lv_topi (fun v19 ev19 => ?_)
        have tv19 := nu_mulc' (8) ev19 (by omega) (by omega) (by omega)
        refine lv_iadd hx hb dX10_sumOf_36 ?_
        refine lv_topi (fun v20 ev20 => ?_)
        have tv20 := nu_add ev20 (by omega) (by omega)
        refine lv_iload hx hb dX10_sumOf_37 (lv_at hl_6 5 rfl) ?_
        refine lv_iadd hx hb dX10_sumOf_39 ?_
        refine lv_topi (fun v21 ev21 => ?_)
        have tv21 := nu_add ev21 (by omega) (by omega)
        refine tr_iald Z.1 Z.2.2.2.1 S_6.1 S_6.2 hq15 tq15 rfl (by omega) (by omega) dX10_sumOf_40 (fun v22 ev22 lv22 uv22 => ?_)
        refine lv_aload_n hx hb dX10_sumOf_41 rfl (lv_at hl_6 0 rfl) ?_
        refine lv_aload_n hx hb dX10_sumOf_42 rfl (lv_at hl_6 0 rfl) ?_
        refine tr_getr Z.1 Z.2.2.2.1 S_6.1 S_6.2 ha0 ta0 rfl rfl (fun _ h => List.mem_cons_of_mem _ (List.mem_append_right _ h)) 28 (by decide) rfl (hts _ (List.mem_of_getElem? (i := 3) rfl)) dX10_sumOf_43 (fun q23 eq23 hq23 tq23 => ?_)
        have tq23 : τ q23 = (79, 0) := tq23
        have uq23 : qd = q23 := S_6.2.2.2.2 _ hqd _ hq23 (tqd.trans tq23.symm) (by rw [tqd]; rfl)
        subst uq23
        obtain ⟨v24, ev24, tv24⟩ : ∃ v : Int32, (Int8.ofInt (64)).toInt32 = v ∧ v.toInt = 64 := ⟨_, rfl, by decide +kernel⟩
        refine lv_bipush hx hb dX10_sumOf_46 ev24 ?_
        refine lv_iload_n hx hb dX10_sumOf_48 rfl (lv_at hl_6 1 rfl) ?_
        refine lv_imul hx hb dX10_sumOf_49 ?_
        refine lv_topi (fun v25 ev25 => ?_)
        have tv25 := nu_mulc' (64) ev25 (by omega) (by omega) (by omega)
        obtain ⟨v26, ev26, tv26⟩ : ∃ v : Int32, (Int8.ofInt (8)).toInt32 = v ∧ v.toInt = 8 := ⟨_, rfl, by decide +kernel⟩
        refine lv_bipush hx hb dX10_sumOf_50 ev26 ?_
        refine lv_iload_n hx hb dX10_sumOf_52 rfl (lv_at hl_6 2 rfl) ?_
        refine lv_imul hx hb dX10_sumOf_53 ?_
        refine lv_topi (fun v27 ev27 => ?_)
        have tv27 := nu_mulc' (8) ev27 (by omega) (by omega) (by omega)
        refine lv_iadd hx hb dX10_sumOf_54 ?_
        refine lv_topi (fun v28 ev28 => ?_)
        have tv28 := nu_add ev28 (by omega) (by omega)
        refine lv_iload hx hb dX10_sumOf_55 (lv_at hl_6 5 rfl) ?_
        refine lv_iadd hx hb dX10_sumOf_57 ?_
        refine lv_topi (fun v29 ev29 => ?_)
        have tv29 := nu_add ev29 (by omega) (by omega)
        refine tr_iald Z.1 Z.2.2.2.1 S_6.1 S_6.2 hqd tqd rfl (by omega) (by omega) dX10_sumOf_58 (fun v30 ev30 lv30 uv30 => ?_)
        refine lv_iload_n hx hb dX10_sumOf_59 rfl (lv_at hl_6 3 rfl) ?_
        refine tc_vi Z.1 Z.2.2.2.1 Z.2.2.2.2.1 Z.2.2.2.2.2 S_6.1 S_6.2 ha0 ta0 rfl rfl (k_X10_valueOf l D cy S_6.2 ha0 ta0 v30 (by omega) (by omega) a3 (by omega) (by omega) (fun h => Int.not_lt.mp (fun q => by have := slot_at (hS ql hql tql qr hqr tqr qm hqm tqm qd hqd tqd) (s := a1) (w := a2) (i := x5_6) (im := v12) (id := v29) (by omega) (by omega) (by omega) hw (by omega) (by omega) (by omega) ev13 ev30 (by omega) q; omega))) (cwV 2 hts gX10_sumOf_X10_valueOf rfl rfl rfl (by decide +kernel) ⟨Nat.le_of_ble_eq_true rfl, Nat.le_of_ble_eq_true rfl⟩) rfl hl_6.1 rfl (Nat.le_of_ble_eq_true rfl) dX10_sumOf_60 ⟨Nat.zero_le _, Nat.zero_le _⟩ (fun v34 E31 H32 k33 W31 I31 G31 p31 => ?_)
        have q31 := p31
        have q31 := q31.symm
        subst q31
        have S31 : Now D TB cy (va_A (va_pl L E) sz) s L τ E H32 k33 := ⟨W31, I31⟩
        refine lv_imul hx hb dX10_sumOf_63 ?_
        refine lv_topi (fun v35 ev35 => ?_)
        refine lv_iadd hx hb dX10_sumOf_64 ?_
        refine lv_topi (fun v36 ev36 => ?_)
        refine lv_istore (lv' := [(4, .int v36), (0, .ref a0), (1, .int a1), (2, .int a2), (3, .int a3), (5, .int x5_6)]) hx hb dX10_sumOf_65 hl_6 (by decide) rfl (fun l37 hl38 => ?_)
        obtain ⟨v39, ev39⟩ : ∃ y : Int32, x5_6 + Int32.ofInt (1) = y := ⟨_, rfl⟩
        have tv39 : v39.toInt = x5_6.toInt + (1) := by rw [← ev39]; exact (fb_addI (by rw [show (Int32.ofInt (1)).toInt = 1 from by decide +kernel]; omega) (by rw [show (Int32.ofInt (1)).toInt = 1 from by decide +kernel]; omega)).trans (by rw [show (Int32.ofInt (1)).toInt = 1 from by decide +kernel])
        refine lv_iinc (v := v39) (lv' := [(5, .int v39), (4, .int v36), (0, .ref a0), (1, .int a1), (2, .int a2), (3, .int a3)]) hx hb dX10_sumOf_67 hl38 (k := 5) rfl ev39 (by decide) rfl (fun l40 hl41 => ?_)
        refine lv_goto (tgt := 6) hx hb dX10_sumOf_70 (by decide) ?_
        exact ih_6 v36 v39 H32 k33 l40 S31 (by have := fb_rng v36; omega) (by have := fb_rng v36; omega) (by have := fb_rng v36; omega) (by have := fb_rng v36; omega) (by have := fb_rng v36; omega) (by have := fb_rng v36; omega) (by have := fb_rng v36; omega) (by have := fb_rng v36; omega) (by omega) (lv_sub hl41 [2, 3, 4, 5, 1, 0] rfl)
  obtain ⟨v42, ev42, tv42⟩ : ∃ v : Int32, Int32.ofInt (0) = v ∧ v.toInt = 0 := ⟨_, rfl, by decide +kernel⟩
  refine lv_iconst hx hb dX10_sumOf_0 ev42 ?_
  refine lv_istore (lv' := [(4, .int v42), (0, .ref a0), (1, .int a1), (2, .int a2), (3, .int a3)]) hx hb dX10_sumOf_1 hl (by decide) rfl (fun l43 hl44 => ?_)
  obtain ⟨v45, ev45, tv45⟩ : ∃ v : Int32, Int32.ofInt (0) = v ∧ v.toInt = 0 := ⟨_, rfl, by decide +kernel⟩
  refine lv_iconst hx hb dX10_sumOf_3 ev45 ?_
  refine lv_istore (lv' := [(5, .int v45), (4, .int v42), (0, .ref a0), (1, .int a1), (2, .int a2), (3, .int a3)]) hx hb dX10_sumOf_4 hl44 (by decide) rfl (fun l46 hl47 => ?_)
  exact J6 _ v42 v45 s.heap [] l46 S0 (by omega) (by omega) (by omega) (by omega) (by omega) (by omega) (by omega) (by omega) (Nat.lt_succ_self _) (lv_sub hl47 [2, 3, 4, 5, 1, 0] rfl)

set_option maxRecDepth 20000 in
theorem ggX10_breaks_X10_sumOf : GoodIn wsX10_breaks wsX10_sumOf := goodIn_r _ [10, 11, 12, 13, 14, 15, 16, 9, 17, 18, 19, 20, 21, 22, 23, 24, 25, 26, 27, 28, 29, 30, 31, 32, 33, 34, 35, 36, 37, 38, 39, 40, 41, 42, 43, 44, 45, 46, 47, 48, 49, 50, 51, 52, 53, 54, 55, 56, 57, 58, 59, 60, 61, 62, 63, 64, 65, 66, 67, 68, 69, 70, 71, 72] (by decide +kernel) (by decide +kernel)
set_option maxRecDepth 20000 in
theorem gX10_breaks_X10_sumOf : GoodIn wsX10_breaks (wsV RX10 216 RX10 yX10_sumOf wsX10_sumOf) := goodIn_app (goodIn_of _ (by decide +kernel)) ggX10_breaks_X10_sumOf
theorem dX10_breaks_0 : decode cX10_breaks 0 = .ok (.iconst 0, 1) := by decide +kernel
theorem dX10_breaks_1 : decode cX10_breaks 1 = .ok (.istore_n 3, 1) := by decide +kernel
theorem dX10_breaks_2 : decode cX10_breaks 2 = .ok (.iload_n 3, 1) := by decide +kernel
theorem dX10_breaks_3 : decode cX10_breaks 3 = .ok (.aload_n 0, 1) := by decide +kernel
theorem dX10_breaks_4 : decode cX10_breaks 4 = .ok (.getfield 64, 3) := by decide +kernel
theorem dX10_breaks_7 : decode cX10_breaks 7 = .ok (.iload_n 1, 1) := by decide +kernel
theorem dX10_breaks_8 : decode cX10_breaks 8 = .ok (.iaload, 1) := by decide +kernel
theorem dX10_breaks_9 : decode cX10_breaks 9 = .ok (.if_icmp .ge 69, 3) := by decide +kernel
theorem dX10_breaks_12 : decode cX10_breaks 12 = .ok (.aload_n 0, 1) := by decide +kernel
theorem dX10_breaks_13 : decode cX10_breaks 13 = .ok (.getfield 76, 3) := by decide +kernel
theorem dX10_breaks_16 : decode cX10_breaks 16 = .ok (.iconst 4, 1) := by decide +kernel
theorem dX10_breaks_17 : decode cX10_breaks 17 = .ok (.iload_n 1, 1) := by decide +kernel
theorem dX10_breaks_18 : decode cX10_breaks 18 = .ok (.imul, 1) := by decide +kernel
theorem dX10_breaks_19 : decode cX10_breaks 19 = .ok (.iload_n 3, 1) := by decide +kernel
theorem dX10_breaks_20 : decode cX10_breaks 20 = .ok (.iadd, 1) := by decide +kernel
theorem dX10_breaks_21 : decode cX10_breaks 21 = .ok (.iaload, 1) := by decide +kernel
theorem dX10_breaks_22 : decode cX10_breaks 22 = .ok (.aload_n 0, 1) := by decide +kernel
theorem dX10_breaks_23 : decode cX10_breaks 23 = .ok (.iload_n 1, 1) := by decide +kernel
theorem dX10_breaks_24 : decode cX10_breaks 24 = .ok (.iconst 2, 1) := by decide +kernel
theorem dX10_breaks_25 : decode cX10_breaks 25 = .ok (.iload_n 3, 1) := by decide +kernel
theorem dX10_breaks_26 : decode cX10_breaks 26 = .ok (.imul, 1) := by decide +kernel
theorem dX10_breaks_27 : decode cX10_breaks 27 = .ok (.iload_n 2, 1) := by decide +kernel
theorem dX10_breaks_28 : decode cX10_breaks 28 = .ok (.invokevirtual 216, 3) := by decide +kernel
theorem dX10_breaks_31 : decode cX10_breaks 31 = .ok (.aload_n 0, 1) := by decide +kernel
theorem dX10_breaks_32 : decode cX10_breaks 32 = .ok (.iload_n 1, 1) := by decide +kernel
theorem dX10_breaks_33 : decode cX10_breaks 33 = .ok (.iconst 2, 1) := by decide +kernel
theorem dX10_breaks_34 : decode cX10_breaks 34 = .ok (.iload_n 3, 1) := by decide +kernel
theorem dX10_breaks_35 : decode cX10_breaks 35 = .ok (.imul, 1) := by decide +kernel
theorem dX10_breaks_36 : decode cX10_breaks 36 = .ok (.iconst 1, 1) := by decide +kernel
theorem dX10_breaks_37 : decode cX10_breaks 37 = .ok (.iadd, 1) := by decide +kernel
theorem dX10_breaks_38 : decode cX10_breaks 38 = .ok (.iload_n 2, 1) := by decide +kernel
theorem dX10_breaks_39 : decode cX10_breaks 39 = .ok (.invokevirtual 216, 3) := by decide +kernel
theorem dX10_breaks_42 : decode cX10_breaks 42 = .ok (.isub, 1) := by decide +kernel
theorem dX10_breaks_43 : decode cX10_breaks 43 = .ok (.imul, 1) := by decide +kernel
theorem dX10_breaks_44 : decode cX10_breaks 44 = .ok (.istore 4, 2) := by decide +kernel
theorem dX10_breaks_46 : decode cX10_breaks 46 = .ok (.iload 4, 2) := by decide +kernel
theorem dX10_breaks_48 : decode cX10_breaks 48 = .ok (.ifCond .gt 6, 3) := by decide +kernel
theorem dX10_breaks_51 : decode cX10_breaks 51 = .ok (.goto 21, 3) := by decide +kernel
theorem dX10_breaks_54 : decode cX10_breaks 54 = .ok (.aload_n 0, 1) := by decide +kernel
theorem dX10_breaks_55 : decode cX10_breaks 55 = .ok (.iload_n 2, 1) := by decide +kernel
theorem dX10_breaks_56 : decode cX10_breaks 56 = .ok (.putfield 219, 3) := by decide +kernel
theorem dX10_breaks_59 : decode cX10_breaks 59 = .ok (.aload_n 0, 1) := by decide +kernel
theorem dX10_breaks_60 : decode cX10_breaks 60 = .ok (.iload_n 3, 1) := by decide +kernel
theorem dX10_breaks_61 : decode cX10_breaks 61 = .ok (.putfield 222, 3) := by decide +kernel
theorem dX10_breaks_64 : decode cX10_breaks 64 = .ok (.aload_n 0, 1) := by decide +kernel
theorem dX10_breaks_65 : decode cX10_breaks 65 = .ok (.iload 4, 2) := by decide +kernel
theorem dX10_breaks_67 : decode cX10_breaks 67 = .ok (.putfield 225, 3) := by decide +kernel
theorem dX10_breaks_70 : decode cX10_breaks 70 = .ok (.iconst 1, 1) := by decide +kernel
theorem dX10_breaks_71 : decode cX10_breaks 71 = .ok (.ireturn, 1) := by decide +kernel
theorem dX10_breaks_72 : decode cX10_breaks 72 = .ok (.iinc 3 1, 3) := by decide +kernel
theorem dX10_breaks_75 : decode cX10_breaks 75 = .ok (.goto (-73), 3) := by decide +kernel
theorem dX10_breaks_78 : decode cX10_breaks 78 = .ok (.iconst 0, 1) := by decide +kernel
theorem dX10_breaks_79 : decode cX10_breaks 79 = .ok (.ireturn, 1) := by decide +kernel
set_option maxHeartbeats 4000000 in
set_option maxRecDepth 100000 in
theorem k_X10_breaks (l : Launch) (D : va_G) (cy : Nat → ClassId) {L : List Nat} {τ : Nat → Ro} {E : Ec} (hI : Inv TB cy L τ E) {a0 : Nat} (ha0 : a0 ∈ L) (ta0 : τ a0 = (11, 0)) (a1 : Int32) (la1 : 0 ≤ a1.toInt) (ua1 : a1.toInt ≤ 49) (a2 : Int32) (la2 : 0 ≤ a2.toInt) (ua2 : a2.toInt ≤ 65) {ql : Nat} (hql : ql ∈ L) (tql : τ ql = (75, 0)) {qr : Nat} (hqr : qr ∈ L) (tqr : τ qr = (76, 0)) {qm : Nat} (hqm : qm ∈ L) (tqm : τ qm = (77, 0)) {qd : Nat} (hqd : qd ∈ L) (tqd : τ qd = (79, 0)) (hk : a2.toInt + (ai E ql a1.toInt.toNat).toInt ≤ 65) (hS : SlotOK L τ E) : CtI l yX10_breaks wsX10_breaks { frames := 2, cells := 0, slots := 0, locals := 48 } D TB cy L τ E [.ref a0, .int a1, .int a2] (inW [(11, 0)]) (fun r E' => 0 ≤ r.toInt ∧ r.toInt ≤ 1 ∧ (∀ k : Nat, k ∉ ([30, 31, 32] : List Nat) → fi E' a0 k = fi E a0 k)) := by
  intro sz
  refine sta (cc := cX10_breaks) (maxL := 5) hI (by decide) rfl (Nat.le_of_ble_eq_true rfl) (fun p e s m args below meth c ls hsz Z S0 hl => ?_)
  have hx := Z.1.1
  have hb := Z.1.2.1
  have hts := Z.1.2.2.2.2
  have F0_ : Fr L τ (inW [(11, 0)]) E E := Fr.refl
  have hl : lv_has ls 5 [(0, .ref a0), (1, .int a1), (2, .int a2)] := hl
  generalize hQ : MQ below _ args s 0 0 _ = QQ
  have J2 : ∀ (n : Nat) (x3_2 : Int32) (E_2 : Ec) (H_2 : Heap) (k_2 : List Loc) (l_2 : Array Slot), Now D TB cy (va_A (va_pl L E) sz) s L τ E_2 H_2 k_2 → Fr L τ (inW [(11, 0)]) E E_2 → (0 ≤ a1.toInt) → (a1.toInt ≤ 49) → (0 ≤ a2.toInt) → (a2.toInt ≤ 65) → (0 ≤ x3_2.toInt) → (x3_2.toInt ≤ 4) → (∀ k : Nat, k ∉ ([30, 31, 32] : List Nat) → fi E_2 a0 k = fi E a0 k) → (4 - x3_2.toInt).toNat < n → lv_has l_2 5 [(0, .ref a0), (1, .int a1), (2, .int a2), (3, .int x3_2)] → W p l e { frames := 2, cells := 0, slots := 0, locals := 48 } s m args below meth c H_2 k_2 0 0 QQ (F0 m 2 l_2 []) := by
    intro n
    induction n with
    | zero => intro x3_2 E_2 H_2 k_2 l_2 S_2 F_2 z1 z2 z3 z4 z5 z6 z7 hm hl_2; exact absurd hm (Nat.not_lt_zero _)
    | succ n ih =>
      intro x3_2 E_2 H_2 k_2 l_2 S_2 F_2 z1 z2 z3 z4 z5 z6 z7 hm hl_2
      have ih_2 := ih
      refine lv_iload_n hx hb dX10_breaks_2 rfl (lv_at hl_2 3 rfl) ?_
      refine lv_aload_n hx hb dX10_breaks_3 rfl (lv_at hl_2 0 rfl) ?_
      refine tr_getr Z.1 Z.2.2.2.1 S_2.1 S_2.2 ha0 ta0 rfl rfl (fun _ h => List.mem_cons_of_mem _ (List.mem_append_right _ h)) 25 (by decide) rfl (hts _ (List.mem_of_getElem? (i := 1) rfl)) dX10_breaks_4 (fun q8 eq8 hq8 tq8 => ?_)
      have tq8 : τ q8 = (76, 0) := tq8
      have uq8 : qr = q8 := S_2.2.2.2.2 _ hqr _ hq8 (tqr.trans tq8.symm) (by rw [tqr]; rfl)
      subst uq8
      refine lv_iload_n hx hb dX10_breaks_7 rfl (lv_at hl_2 1 rfl) ?_
      refine tr_iald Z.1 Z.2.2.2.1 S_2.1 S_2.2 hqr tqr rfl (by omega) (by omega) dX10_breaks_8 (fun v9 ev9 lv9 uv9 => ?_)
      refine lv_icmp_ge (tgt := 78) hx hb dX10_breaks_9 (by decide) (fun c10 => ?_) (fun c10 => ?_)
      · skip
        have tc10 := nu_le c10
        obtain ⟨v11, ev11, tv11⟩ : ∃ v : Int32, Int32.ofInt (0) = v ∧ v.toInt = 0 := ⟨_, rfl, by decide +kernel⟩
        refine lv_iconst hx hb dX10_breaks_78 ev11 ?_
        rw [← hQ]
        exact en_z Z S_2 F_2 (zo v11 (by omega)) ⟨(by omega), (by omega), (fun k hk => (z7 k hk))⟩ dX10_breaks_79
      · skip
        have tc10 := nu_nle c10
        refine lv_aload_n hx hb dX10_breaks_12 rfl (lv_at hl_2 0 rfl) ?_
        refine tr_getr Z.1 Z.2.2.2.1 S_2.1 S_2.2 ha0 ta0 rfl rfl (fun _ h => List.mem_cons_of_mem _ (List.mem_append_right _ h)) 29 (by decide) rfl (hts _ (List.mem_of_getElem? (i := 2) rfl)) dX10_breaks_13 (fun q12 eq12 hq12 tq12 => ?_)
        have tq12 : τ q12 = (80, 0) := tq12
        obtain ⟨v13, ev13, tv13⟩ : ∃ v : Int32, Int32.ofInt (4) = v ∧ v.toInt = 4 := ⟨_, rfl, by decide +kernel⟩
        refine lv_iconst hx hb dX10_breaks_16 ev13 ?_
        refine lv_iload_n hx hb dX10_breaks_17 rfl (lv_at hl_2 1 rfl) ?_
        refine lv_imul hx hb dX10_breaks_18 ?_
        refine lv_topi (fun v14 ev14 => ?_)
        have tv14 := nu_mulc' (4) ev14 (by omega) (by omega) (by omega)
        refine lv_iload_n hx hb dX10_breaks_19 rfl (lv_at hl_2 3 rfl) ?_
        refine lv_iadd hx hb dX10_breaks_20 ?_
        refine lv_topi (fun v15 ev15 => ?_)
        have tv15 := nu_add ev15 (by omega) (by omega)
        refine tr_iald Z.1 Z.2.2.2.1 S_2.1 S_2.2 hq12 tq12 rfl (by omega) (by omega) dX10_breaks_21 (fun v16 ev16 lv16 uv16 => ?_)
        refine lv_aload_n hx hb dX10_breaks_22 rfl (lv_at hl_2 0 rfl) ?_
        refine lv_iload_n hx hb dX10_breaks_23 rfl (lv_at hl_2 1 rfl) ?_
        obtain ⟨v17, ev17, tv17⟩ : ∃ v : Int32, Int32.ofInt (2) = v ∧ v.toInt = 2 := ⟨_, rfl, by decide +kernel⟩
        refine lv_iconst hx hb dX10_breaks_24 ev17 ?_
        refine lv_iload_n hx hb dX10_breaks_25 rfl (lv_at hl_2 3 rfl) ?_
        refine lv_imul hx hb dX10_breaks_26 ?_
        refine lv_topi (fun v18 ev18 => ?_)
        have tv18 := nu_mulc' (2) ev18 (by omega) (by omega) (by omega)
        refine lv_iload_n hx hb dX10_breaks_27 rfl (lv_at hl_2 2 rfl) ?_
        refine tc_vi Z.1 Z.2.2.2.1 Z.2.2.2.2.1 Z.2.2.2.2.2 S_2.1 S_2.2 ha0 ta0 rfl rfl (k_X10_sumOf l D cy S_2.2 ha0 ta0 a1 (by omega) (by omega) v18 (by omega) (by omega) a2 (by omega) (by omega) hql tql hqr tqr hqm tqm hqd tqd (by have q : ai E_2 qr a1.toInt.toNat = v9 := ev9; rw [q]; omega) (by rw [(ai_fr F_2 hql (by rw [tql]; rfl))]; omega) (SlotOK.fr F_2 rfl rfl rfl rfl hS)) (cwV 3 hts gX10_breaks_X10_sumOf rfl rfl rfl (by decide +kernel) ⟨Nat.le_of_ble_eq_true rfl, Nat.le_of_ble_eq_true rfl⟩) rfl hl_2.1 rfl (Nat.le_of_ble_eq_true rfl) dX10_breaks_28 ⟨Nat.zero_le _, Nat.zero_le _⟩ (fun v22 E19 H20 k21 W19 I19 G19 p19 => ?_)
        have q19 := p19
        have q19 := q19.symm
        subst q19
        have S19 : Now D TB cy (va_A (va_pl L E) sz) s L τ E_2 H20 k21 := ⟨W19, I19⟩
        refine lv_aload_n hx hb dX10_breaks_31 rfl (lv_at hl_2 0 rfl) ?_
        refine lv_iload_n hx hb dX10_breaks_32 rfl (lv_at hl_2 1 rfl) ?_
        obtain ⟨v23, ev23, tv23⟩ : ∃ v : Int32, Int32.ofInt (2) = v ∧ v.toInt = 2 := ⟨_, rfl, by decide +kernel⟩
        refine lv_iconst hx hb dX10_breaks_33 ev23 ?_
        refine lv_iload_n hx hb dX10_breaks_34 rfl (lv_at hl_2 3 rfl) ?_
        refine lv_imul hx hb dX10_breaks_35 ?_
        refine lv_topi (fun v24 ev24 => ?_)
        have tv24 := nu_mulc' (2) ev24 (by omega) (by omega) (by omega)
        obtain ⟨v25, ev25, tv25⟩ : ∃ v : Int32, Int32.ofInt (1) = v ∧ v.toInt = 1 := ⟨_, rfl, by decide +kernel⟩
        refine lv_iconst hx hb dX10_breaks_36 ev25 ?_
        refine lv_iadd hx hb dX10_breaks_37 ?_
        refine lv_topi (fun v26 ev26 => ?_)
        have tv26 := nu_add ev26 (by omega) (by omega)
        refine lv_iload_n hx hb dX10_breaks_38 rfl (lv_at hl_2 2 rfl) ?_
        refine tc_vi Z.1 Z.2.2.2.1 Z.2.2.2.2.1 Z.2.2.2.2.2 S19.1 S19.2 ha0 ta0 rfl rfl (k_X10_sumOf l D cy S19.2 ha0 ta0 a1 (by omega) (by omega) v26 (by omega) (by omega) a2 (by omega) (by omega) hql tql hqr tqr hqm tqm hqd tqd (by have q : ai E_2 qr a1.toInt.toNat = v9 := ev9; rw [q]; omega) (by rw [(ai_fr F_2 hql (by rw [tql]; rfl))]; omega) (SlotOK.fr F_2 rfl rfl rfl rfl hS)) (cwV 3 hts gX10_breaks_X10_sumOf rfl rfl rfl (by decide +kernel) ⟨Nat.le_of_ble_eq_true rfl, Nat.le_of_ble_eq_true rfl⟩) rfl hl_2.1 rfl (Nat.le_of_ble_eq_true rfl) dX10_breaks_39 ⟨Nat.zero_le _, Nat.zero_le _⟩ (fun v30 E27 H28 k29 W27 I27 G27 p27 => ?_)
        have q27 := p27
        have q27 := q27.symm
        subst q27
        have S27 : Now D TB cy (va_A (va_pl L E) sz) s L τ E_2 H28 k29 := ⟨W27, I27⟩
        refine lv_isub hx hb dX10_breaks_42 ?_
        refine lv_topi (fun v31 ev31 => ?_)
        refine lv_imul hx hb dX10_breaks_43 ?_
        refine lv_topi (fun v32 ev32 => ?_)
        refine lv_istore (lv' := [(4, .int v32), (0, .ref a0), (1, .int a1), (2, .int a2), (3, .int x3_2)]) hx hb dX10_breaks_44 hl_2 (by decide) rfl (fun l33 hl34 => ?_)
        refine lv_iload hx hb dX10_breaks_46 (lv_at hl34 0 rfl) ?_
        refine lv_if_gt (tgt := 54) hx hb dX10_breaks_48 (by decide) (fun c35 => ?_) (fun c35 => ?_)
        · skip
          have tc35 := nu_lt c35
          have uc35 : (0 : Int32).toInt = 0 := rfl
          refine lv_aload_n hx hb dX10_breaks_54 rfl (lv_at hl34 1 rfl) ?_
          refine lv_iload_n hx hb dX10_breaks_55 rfl (lv_at hl34 3 rfl) ?_
          refine tr_puti Z.1 Z.2.2.2.1 S27.1 S27.2 ha0 ta0 rfl rfl (fun _ h => List.mem_cons_of_mem _ (List.mem_append_right _ h)) tyX10_ok nmX10 30 (by decide) rfl rfl rfl (hts _ (List.mem_of_getElem? (i := 3) rfl)) dX10_breaks_56 (by have := fb_rng a2; omega) (by have := fb_rng a2; omega) (fun E36 H37 k38 W36 I36 P36 => ?_)
          have S36 : Now D TB cy (va_A (va_pl L E) sz) s L τ E36 H37 k38 := ⟨W36, I36⟩
          have F36 : Fr L τ (inW [(11, 0)]) E E36 := Fr.put F_2 P36 ta0 rfl
          refine lv_aload_n hx hb dX10_breaks_59 rfl (lv_at hl34 1 rfl) ?_
          refine lv_iload_n hx hb dX10_breaks_60 rfl (lv_at hl34 4 rfl) ?_
          refine tr_puti Z.1 Z.2.2.2.1 S36.1 S36.2 ha0 ta0 rfl rfl (fun _ h => List.mem_cons_of_mem _ (List.mem_append_right _ h)) tyX10_ok nmX10 31 (by decide) rfl rfl rfl (hts _ (List.mem_of_getElem? (i := 4) rfl)) dX10_breaks_61 (by have := fb_rng x3_2; omega) (by have := fb_rng x3_2; omega) (fun E39 H40 k41 W39 I39 P39 => ?_)
          have S39 : Now D TB cy (va_A (va_pl L E) sz) s L τ E39 H40 k41 := ⟨W39, I39⟩
          have F39 : Fr L τ (inW [(11, 0)]) E E39 := Fr.put F36 P39 ta0 rfl
          refine lv_aload_n hx hb dX10_breaks_64 rfl (lv_at hl34 1 rfl) ?_
          refine lv_iload hx hb dX10_breaks_65 (lv_at hl34 0 rfl) ?_
          refine tr_puti Z.1 Z.2.2.2.1 S39.1 S39.2 ha0 ta0 rfl rfl (fun _ h => List.mem_cons_of_mem _ (List.mem_append_right _ h)) tyX10_ok nmX10 32 (by decide) rfl rfl rfl (hts _ (List.mem_of_getElem? (i := 5) rfl)) dX10_breaks_67 (by have := fb_rng v32; omega) (by have := fb_rng v32; omega) (fun E42 H43 k44 W42 I42 P42 => ?_)
          have S42 : Now D TB cy (va_A (va_pl L E) sz) s L τ E42 H43 k44 := ⟨W42, I42⟩
          have F42 : Fr L τ (inW [(11, 0)]) E E42 := Fr.put F39 P42 ta0 rfl
          obtain ⟨v45, ev45, tv45⟩ : ∃ v : Int32, Int32.ofInt (1) = v ∧ v.toInt = 1 := ⟨_, rfl, by decide +kernel⟩
          refine lv_iconst hx hb dX10_breaks_70 ev45 ?_
          rw [← hQ]
          exact en_z Z S42 F42 (zo v45 (by omega)) ⟨(by omega), (by omega), (fun k hk => ((fi_put P42 (Or.inr (fw_ne (by decide) hk))).trans ((fi_put P39 (Or.inr (fw_ne (by decide) hk))).trans ((fi_put P36 (Or.inr (fw_ne (by decide) hk))).trans (z7 k hk)))))⟩ dX10_breaks_71
        · skip
          have tc35 := nu_nlt c35
          have uc35 : (0 : Int32).toInt = 0 := rfl
          refine lv_goto (tgt := 72) hx hb dX10_breaks_51 (by decide) ?_
          obtain ⟨v46, ev46⟩ : ∃ y : Int32, x3_2 + Int32.ofInt (1) = y := ⟨_, rfl⟩
          have tv46 : v46.toInt = x3_2.toInt + (1) := by rw [← ev46]; exact (fb_addI (by rw [show (Int32.ofInt (1)).toInt = 1 from by decide +kernel]; omega) (by rw [show (Int32.ofInt (1)).toInt = 1 from by decide +kernel]; omega)).trans (by rw [show (Int32.ofInt (1)).toInt = 1 from by decide +kernel])
          refine lv_iinc (v := v46) (lv' := [(3, .int v46), (4, .int v32), (0, .ref a0), (1, .int a1), (2, .int a2)]) hx hb dX10_breaks_72 hl34 (k := 4) rfl ev46 (by decide) rfl (fun l47 hl48 => ?_)
          refine lv_goto (tgt := 2) hx hb dX10_breaks_75 (by decide) ?_
          exact ih_2 v46 E_2 H28 k29 l47 S27 F_2 (by have := fb_rng v32; omega) (by have := fb_rng v32; omega) (by have := fb_rng v32; omega) (by have := fb_rng v32; omega) (by have := fb_rng v32; omega) (by have := fb_rng v32; omega) (fun k hk => (z7 k hk)) (by omega) (lv_sub hl48 [2, 3, 4, 0] rfl)
  obtain ⟨v49, ev49, tv49⟩ : ∃ v : Int32, Int32.ofInt (0) = v ∧ v.toInt = 0 := ⟨_, rfl, by decide +kernel⟩
  refine lv_iconst hx hb dX10_breaks_0 ev49 ?_
  refine lv_istore_n (lv' := [(3, .int v49), (0, .ref a0), (1, .int a1), (2, .int a2)]) hx hb dX10_breaks_1 rfl hl (by decide) rfl (fun l50 hl51 => ?_)
  exact J2 _ v49 E s.heap [] l50 S0 F0_ (by omega) (by omega) (by omega) (by omega) (by omega) (by omega) (fun k hk => ((fun k hk => rfl) k hk)) (Nat.lt_succ_self _) (lv_sub hl51 [1, 2, 3, 0] rfl)

set_option maxRecDepth 20000 in
theorem ggX10_isBroken_X10_breaks : GoodIn wsX10_isBroken wsX10_breaks := goodIn_r _ [11, 12, 13, 4, 5, 6, 14, 15, 16, 10, 17, 18, 19, 20, 21, 22, 23, 24, 25, 26, 27, 28, 29, 2, 30, 31, 32, 33, 34, 35, 36, 37, 38, 39, 40, 41, 42, 43, 44, 45, 46, 47, 48, 49, 50, 51, 52, 53, 54, 55, 56, 57, 58, 59, 60, 61, 62, 63, 64, 65, 66, 67, 68, 69, 70, 71, 72, 73, 74, 75, 76, 77, 78] (by decide +kernel) (by decide +kernel)
set_option maxRecDepth 20000 in
theorem gX10_isBroken_X10_breaks : GoodIn wsX10_isBroken (wsV RX10 228 RX10 yX10_breaks wsX10_breaks) := goodIn_app (goodIn_of _ (by decide +kernel)) ggX10_isBroken_X10_breaks
theorem dX10_isBroken_0 : decode cX10_isBroken 0 = .ok (.aload_n 0, 1) := by decide +kernel
theorem dX10_isBroken_1 : decode cX10_isBroken 1 = .ok (.getfield 61, 3) := by decide +kernel
theorem dX10_isBroken_4 : decode cX10_isBroken 4 = .ok (.iload_n 1, 1) := by decide +kernel
theorem dX10_isBroken_5 : decode cX10_isBroken 5 = .ok (.baload, 1) := by decide +kernel
theorem dX10_isBroken_6 : decode cX10_isBroken 6 = .ok (.ifCond .eq 12, 3) := by decide +kernel
theorem dX10_isBroken_9 : decode cX10_isBroken 9 = .ok (.aload_n 0, 1) := by decide +kernel
theorem dX10_isBroken_10 : decode cX10_isBroken 10 = .ok (.getfield 112, 3) := by decide +kernel
theorem dX10_isBroken_13 : decode cX10_isBroken 13 = .ok (.iconst 1, 1) := by decide +kernel
theorem dX10_isBroken_14 : decode cX10_isBroken 14 = .ok (.isub, 1) := by decide +kernel
theorem dX10_isBroken_15 : decode cX10_isBroken 15 = .ok (.goto 7, 3) := by decide +kernel
theorem dX10_isBroken_18 : decode cX10_isBroken 18 = .ok (.aload_n 0, 1) := by decide +kernel
theorem dX10_isBroken_19 : decode cX10_isBroken 19 = .ok (.getfield 112, 3) := by decide +kernel
theorem dX10_isBroken_22 : decode cX10_isBroken 22 = .ok (.istore_n 2, 1) := by decide +kernel
theorem dX10_isBroken_23 : decode cX10_isBroken 23 = .ok (.aload_n 0, 1) := by decide +kernel
theorem dX10_isBroken_24 : decode cX10_isBroken 24 = .ok (.getfield 57, 3) := by decide +kernel
theorem dX10_isBroken_27 : decode cX10_isBroken 27 = .ok (.iload_n 1, 1) := by decide +kernel
theorem dX10_isBroken_28 : decode cX10_isBroken 28 = .ok (.baload, 1) := by decide +kernel
theorem dX10_isBroken_29 : decode cX10_isBroken 29 = .ok (.ifCond .eq 69, 3) := by decide +kernel
theorem dX10_isBroken_32 : decode cX10_isBroken 32 = .ok (.iconst 0, 1) := by decide +kernel
theorem dX10_isBroken_33 : decode cX10_isBroken 33 = .ok (.istore_n 3, 1) := by decide +kernel
theorem dX10_isBroken_34 : decode cX10_isBroken 34 = .ok (.iload_n 3, 1) := by decide +kernel
theorem dX10_isBroken_35 : decode cX10_isBroken 35 = .ok (.iload_n 2, 1) := by decide +kernel
theorem dX10_isBroken_36 : decode cX10_isBroken 36 = .ok (.if_icmp .ge 20, 3) := by decide +kernel
theorem dX10_isBroken_39 : decode cX10_isBroken 39 = .ok (.aload_n 0, 1) := by decide +kernel
theorem dX10_isBroken_40 : decode cX10_isBroken 40 = .ok (.iload_n 1, 1) := by decide +kernel
theorem dX10_isBroken_41 : decode cX10_isBroken 41 = .ok (.iload_n 3, 1) := by decide +kernel
theorem dX10_isBroken_42 : decode cX10_isBroken 42 = .ok (.invokevirtual 228, 3) := by decide +kernel
theorem dX10_isBroken_45 : decode cX10_isBroken 45 = .ok (.ifCond .ne 5, 3) := by decide +kernel
theorem dX10_isBroken_48 : decode cX10_isBroken 48 = .ok (.iconst 0, 1) := by decide +kernel
theorem dX10_isBroken_49 : decode cX10_isBroken 49 = .ok (.ireturn, 1) := by decide +kernel
theorem dX10_isBroken_50 : decode cX10_isBroken 50 = .ok (.iinc 3 1, 3) := by decide +kernel
theorem dX10_isBroken_53 : decode cX10_isBroken 53 = .ok (.goto (-19), 3) := by decide +kernel
theorem dX10_isBroken_56 : decode cX10_isBroken 56 = .ok (.iload_n 2, 1) := by decide +kernel
theorem dX10_isBroken_57 : decode cX10_isBroken 57 = .ok (.ifCond .le 16, 3) := by decide +kernel
theorem dX10_isBroken_60 : decode cX10_isBroken 60 = .ok (.aload_n 0, 1) := by decide +kernel
theorem dX10_isBroken_61 : decode cX10_isBroken 61 = .ok (.iload_n 1, 1) := by decide +kernel
theorem dX10_isBroken_62 : decode cX10_isBroken 62 = .ok (.iconst 0, 1) := by decide +kernel
theorem dX10_isBroken_63 : decode cX10_isBroken 63 = .ok (.invokevirtual 228, 3) := by decide +kernel
theorem dX10_isBroken_66 : decode cX10_isBroken 66 = .ok (.ifCond .eq 7, 3) := by decide +kernel
theorem dX10_isBroken_69 : decode cX10_isBroken 69 = .ok (.iconst 1, 1) := by decide +kernel
theorem dX10_isBroken_70 : decode cX10_isBroken 70 = .ok (.goto 4, 3) := by decide +kernel
theorem dX10_isBroken_73 : decode cX10_isBroken 73 = .ok (.iconst 0, 1) := by decide +kernel
theorem dX10_isBroken_74 : decode cX10_isBroken 74 = .ok (.istore_n 3, 1) := by decide +kernel
theorem dX10_isBroken_75 : decode cX10_isBroken 75 = .ok (.iload_n 3, 1) := by decide +kernel
theorem dX10_isBroken_76 : decode cX10_isBroken 76 = .ok (.ifCond .eq 5, 3) := by decide +kernel
theorem dX10_isBroken_79 : decode cX10_isBroken 79 = .ok (.iconst 1, 1) := by decide +kernel
theorem dX10_isBroken_80 : decode cX10_isBroken 80 = .ok (.ireturn, 1) := by decide +kernel
theorem dX10_isBroken_81 : decode cX10_isBroken 81 = .ok (.aload_n 0, 1) := by decide +kernel
theorem dX10_isBroken_82 : decode cX10_isBroken 82 = .ok (.iconst 0, 1) := by decide +kernel
theorem dX10_isBroken_83 : decode cX10_isBroken 83 = .ok (.putfield 219, 3) := by decide +kernel
theorem dX10_isBroken_86 : decode cX10_isBroken 86 = .ok (.aload_n 0, 1) := by decide +kernel
theorem dX10_isBroken_87 : decode cX10_isBroken 87 = .ok (.iconst 0, 1) := by decide +kernel
theorem dX10_isBroken_88 : decode cX10_isBroken 88 = .ok (.putfield 222, 3) := by decide +kernel
theorem dX10_isBroken_91 : decode cX10_isBroken 91 = .ok (.aload_n 0, 1) := by decide +kernel
theorem dX10_isBroken_92 : decode cX10_isBroken 92 = .ok (.iconst 1, 1) := by decide +kernel
theorem dX10_isBroken_93 : decode cX10_isBroken 93 = .ok (.putfield 225, 3) := by decide +kernel
theorem dX10_isBroken_96 : decode cX10_isBroken 96 = .ok (.iconst 1, 1) := by decide +kernel
theorem dX10_isBroken_97 : decode cX10_isBroken 97 = .ok (.ireturn, 1) := by decide +kernel
theorem dX10_isBroken_98 : decode cX10_isBroken 98 = .ok (.iconst 0, 1) := by decide +kernel
theorem dX10_isBroken_99 : decode cX10_isBroken 99 = .ok (.istore_n 3, 1) := by decide +kernel
theorem dX10_isBroken_100 : decode cX10_isBroken 100 = .ok (.iload_n 3, 1) := by decide +kernel
theorem dX10_isBroken_101 : decode cX10_isBroken 101 = .ok (.iload_n 2, 1) := by decide +kernel
theorem dX10_isBroken_102 : decode cX10_isBroken 102 = .ok (.if_icmp .ge 20, 3) := by decide +kernel
theorem dX10_isBroken_105 : decode cX10_isBroken 105 = .ok (.aload_n 0, 1) := by decide +kernel
theorem dX10_isBroken_106 : decode cX10_isBroken 106 = .ok (.iload_n 1, 1) := by decide +kernel
theorem dX10_isBroken_107 : decode cX10_isBroken 107 = .ok (.iload_n 3, 1) := by decide +kernel
theorem dX10_isBroken_108 : decode cX10_isBroken 108 = .ok (.invokevirtual 228, 3) := by decide +kernel
theorem dX10_isBroken_111 : decode cX10_isBroken 111 = .ok (.ifCond .eq 5, 3) := by decide +kernel
theorem dX10_isBroken_114 : decode cX10_isBroken 114 = .ok (.iconst 1, 1) := by decide +kernel
theorem dX10_isBroken_115 : decode cX10_isBroken 115 = .ok (.ireturn, 1) := by decide +kernel
theorem dX10_isBroken_116 : decode cX10_isBroken 116 = .ok (.iinc 3 1, 3) := by decide +kernel
theorem dX10_isBroken_119 : decode cX10_isBroken 119 = .ok (.goto (-19), 3) := by decide +kernel
theorem dX10_isBroken_122 : decode cX10_isBroken 122 = .ok (.iconst 0, 1) := by decide +kernel
theorem dX10_isBroken_123 : decode cX10_isBroken 123 = .ok (.ireturn, 1) := by decide +kernel
set_option maxHeartbeats 4000000 in
set_option maxRecDepth 100000 in
theorem k_X10_isBroken (l : Launch) (D : va_G) (cy : Nat → ClassId) {L : List Nat} {τ : Nat → Ro} {E : Ec} (hI : Inv TB cy L τ E) {a0 : Nat} (ha0 : a0 ∈ L) (ta0 : τ a0 = (11, 0)) (a1 : Int32) (la1 : 0 ≤ a1.toInt) (ua1 : a1.toInt ≤ 49) (hS : SlotOK L τ E) : CtI l yX10_isBroken wsX10_isBroken { frames := 3, cells := 0, slots := 0, locals := 72 } D TB cy L τ E [.ref a0, .int a1] (inW [(11, 0)]) (fun r E' => 0 ≤ r.toInt ∧ r.toInt ≤ 1 ∧ (∀ k : Nat, k ∉ ([30, 31, 32] : List Nat) → fi E' a0 k = fi E a0 k)) := by
  intro sz
  refine sta (cc := cX10_isBroken) (maxL := 4) hI (by decide) rfl (Nat.le_of_ble_eq_true rfl) (fun p e s m args below meth c ls hsz Z S0 hl => ?_)
  have hx := Z.1.1
  have hb := Z.1.2.1
  have hts := Z.1.2.2.2.2
  have F0_ : Fr L τ (inW [(11, 0)]) E E := Fr.refl
  have hl : lv_has ls 4 [(0, .ref a0), (1, .int a1)] := hl
  generalize hQ : MQ below _ args s 0 0 _ = QQ
  obtain ⟨ql, hql, tql⟩ := ref_of (k := 24) hI ha0 ta0 rfl rfl
  have tql : τ ql = (75, 0) := tql
  obtain ⟨qr, hqr, tqr⟩ := ref_of (k := 25) hI ha0 ta0 rfl rfl
  have tqr : τ qr = (76, 0) := tqr
  obtain ⟨qm, hqm, tqm⟩ := ref_of (k := 26) hI ha0 ta0 rfl rfl
  have tqm : τ qm = (77, 0) := tqm
  obtain ⟨qd, hqd, tqd⟩ := ref_of (k := 28) hI ha0 ta0 rfl rfl
  have tqd : τ qd = (79, 0) := tqd
  have z0l : 0 ≤ (ai E ql a1.toInt.toNat).toInt ∧ (ai E ql a1.toInt.toNat).toInt ≤ 1 := ai_rngz hI hql tql rfl (show a1.toInt.toNat < 50 by omega)
  have J100 : ∀ (n : Nat) (x2_100 : Int32) (x3_100 : Int32) (E_100 : Ec) (H_100 : Heap) (k_100 : List Loc) (l_100 : Array Slot), Now D TB cy (va_A (va_pl L E) sz) s L τ E_100 H_100 k_100 → Fr L τ (inW [(11, 0)]) E E_100 → (0 ≤ a1.toInt) → (a1.toInt ≤ 49) → (-1 ≤ x2_100.toInt) → (x2_100.toInt ≤ 66) → (0 ≤ x3_100.toInt) → (x3_100.toInt ≤ 66) → (x2_100.toInt + (ai E ql a1.toInt.toNat).toInt ≤ 66) → (∀ k : Nat, k ∉ ([30, 31, 32] : List Nat) → fi E_100 a0 k = fi E a0 k) → (66 - x3_100.toInt).toNat < n → lv_has l_100 4 [(0, .ref a0), (1, .int a1), (2, .int x2_100), (3, .int x3_100)] → W p l e { frames := 3, cells := 0, slots := 0, locals := 72 } s m args below meth c H_100 k_100 0 0 QQ (F0 m 100 l_100 []) := by
    intro n
    induction n with
    | zero => intro x2_100 x3_100 E_100 H_100 k_100 l_100 S_100 F_100 z1 z2 z3 z4 z5 z6 z7 z8 hm hl_100; exact absurd hm (Nat.not_lt_zero _)
    | succ n ih =>
      intro x2_100 x3_100 E_100 H_100 k_100 l_100 S_100 F_100 z1 z2 z3 z4 z5 z6 z7 z8 hm hl_100
      have ih_100 := ih
      refine lv_iload_n hx hb dX10_isBroken_100 rfl (lv_at hl_100 3 rfl) ?_
      refine lv_iload_n hx hb dX10_isBroken_101 rfl (lv_at hl_100 2 rfl) ?_
      refine lv_icmp_ge (tgt := 122) hx hb dX10_isBroken_102 (by decide) (fun c9 => ?_) (fun c9 => ?_)
      · skip
        have tc9 := nu_le c9
        obtain ⟨v10, ev10, tv10⟩ : ∃ v : Int32, Int32.ofInt (0) = v ∧ v.toInt = 0 := ⟨_, rfl, by decide +kernel⟩
        refine lv_iconst hx hb dX10_isBroken_122 ev10 ?_
        rw [← hQ]
        exact en_z Z S_100 F_100 (zo v10 (by omega)) ⟨(by omega), (by omega), (fun k hk => (z8 k hk))⟩ dX10_isBroken_123
      · skip
        have tc9 := nu_nle c9
        refine lv_aload_n hx hb dX10_isBroken_105 rfl (lv_at hl_100 0 rfl) ?_
        refine lv_iload_n hx hb dX10_isBroken_106 rfl (lv_at hl_100 1 rfl) ?_
        refine lv_iload_n hx hb dX10_isBroken_107 rfl (lv_at hl_100 3 rfl) ?_
        refine tc_vi Z.1 Z.2.2.2.1 Z.2.2.2.2.1 Z.2.2.2.2.2 S_100.1 S_100.2 ha0 ta0 rfl rfl (k_X10_breaks l D cy S_100.2 ha0 ta0 a1 (by omega) (by omega) x3_100 (by omega) (by omega) hql tql hqr tqr hqm tqm hqd tqd (by rw [(ai_fr F_100 hql (by rw [tql]; rfl))]; omega) (SlotOK.fr F_100 rfl rfl rfl rfl hS)) (cwV 2 hts gX10_isBroken_X10_breaks rfl rfl rfl (by decide +kernel) ⟨Nat.le_of_ble_eq_true rfl, Nat.le_of_ble_eq_true rfl⟩) rfl hl_100.1 rfl (Nat.le_of_ble_eq_true rfl) dX10_isBroken_108 ⟨Nat.zero_le _, Nat.zero_le _⟩ (fun v14 E11 H12 k13 W11 I11 G11 p11 => ?_)
        obtain ⟨p11_0, p11_1, p11_2⟩ := p11
        have S11 : Now D TB cy (va_A (va_pl L E) sz) s L τ E11 H12 k13 := ⟨W11, I11⟩
        have F11 : Fr L τ (inW [(11, 0)]) E E11 := F_100.trans (G11.mono (inW_mono (by decide)))
        refine lv_if_eq (tgt := 116) hx hb dX10_isBroken_111 (by decide) (fun c15 => ?_) (fun c15 => ?_)
        · skip
          have tc15 := nu_eq c15
          have uc15 : (0 : Int32).toInt = 0 := rfl
          obtain ⟨v16, ev16⟩ : ∃ y : Int32, x3_100 + Int32.ofInt (1) = y := ⟨_, rfl⟩
          have tv16 : v16.toInt = x3_100.toInt + (1) := by rw [← ev16]; exact (fb_addI (by rw [show (Int32.ofInt (1)).toInt = 1 from by decide +kernel]; omega) (by rw [show (Int32.ofInt (1)).toInt = 1 from by decide +kernel]; omega)).trans (by rw [show (Int32.ofInt (1)).toInt = 1 from by decide +kernel])
          refine lv_iinc (v := v16) (lv' := [(3, .int v16), (0, .ref a0), (1, .int a1), (2, .int x2_100)]) hx hb dX10_isBroken_116 hl_100 (k := 3) rfl ev16 (by decide) rfl (fun l17 hl18 => ?_)
          refine lv_goto (tgt := 100) hx hb dX10_isBroken_119 (by decide) ?_
          exact ih_100 x2_100 v16 E11 H12 k13 l17 S11 F11 (by omega) (by omega) (by omega) (by omega) (by omega) (by omega) (by omega) (fun k hk => ((p11_2 k (fw_sub (by decide) hk)).trans (z8 k hk))) (by omega) (lv_sub hl18 [1, 2, 3, 0] rfl)
        · skip
          have tc15 := nu_ne c15
          have uc15 : (0 : Int32).toInt = 0 := rfl
          obtain ⟨v19, ev19, tv19⟩ : ∃ v : Int32, Int32.ofInt (1) = v ∧ v.toInt = 1 := ⟨_, rfl, by decide +kernel⟩
          refine lv_iconst hx hb dX10_isBroken_114 ev19 ?_
          rw [← hQ]
          exact en_z Z S11 F11 (zo v19 (by omega)) ⟨(by omega), (by omega), (fun k hk => ((p11_2 k (fw_sub (by decide) hk)).trans (z8 k hk)))⟩ dX10_isBroken_115
  have J74 : ∀ (y0_74 : Int32) (E_74 : Ec) (H_74 : Heap) (k_74 : List Loc) (l_74 : Array Slot), Now D TB cy (va_A (va_pl L E) sz) s L τ E_74 H_74 k_74 → Fr L τ (inW [(11, 0)]) E E_74 → (0 ≤ y0_74.toInt) → (y0_74.toInt ≤ 1) → (∀ k : Nat, k ∉ ([30, 31, 32] : List Nat) → fi E_74 a0 k = fi E a0 k) → lv_has l_74 4 [(0, .ref a0)] → W p l e { frames := 3, cells := 0, slots := 0, locals := 72 } s m args below meth c H_74 k_74 0 0 QQ (F0 m 74 l_74 [.int y0_74]) := by
    intro y0_74 E_74 H_74 k_74 l_74 S_74 F_74 z20 z21 z22 hl_74
    refine lv_istore_n (lv' := [(3, .int y0_74), (0, .ref a0)]) hx hb dX10_isBroken_74 rfl hl_74 (by decide) rfl (fun l23 hl24 => ?_)
    refine lv_iload_n hx hb dX10_isBroken_75 rfl (lv_at hl24 0 rfl) ?_
    refine lv_if_eq (tgt := 81) hx hb dX10_isBroken_76 (by decide) (fun c25 => ?_) (fun c25 => ?_)
    · skip
      have tc25 := nu_eq c25
      have uc25 : (0 : Int32).toInt = 0 := rfl
      refine lv_aload_n hx hb dX10_isBroken_81 rfl (lv_at hl24 1 rfl) ?_
      obtain ⟨v26, ev26, tv26⟩ : ∃ v : Int32, Int32.ofInt (0) = v ∧ v.toInt = 0 := ⟨_, rfl, by decide +kernel⟩
      refine lv_iconst hx hb dX10_isBroken_82 ev26 ?_
      refine tr_puti Z.1 Z.2.2.2.1 S_74.1 S_74.2 ha0 ta0 rfl rfl (fun _ h => List.mem_cons_of_mem _ (List.mem_append_right _ h)) tyX10_ok nmX10 30 (by decide) rfl rfl rfl (hts _ (List.mem_of_getElem? (i := 4) rfl)) dX10_isBroken_83 (by have := fb_rng v26; omega) (by have := fb_rng v26; omega) (fun E27 H28 k29 W27 I27 P27 => ?_)
      have S27 : Now D TB cy (va_A (va_pl L E) sz) s L τ E27 H28 k29 := ⟨W27, I27⟩
      have F27 : Fr L τ (inW [(11, 0)]) E E27 := Fr.put F_74 P27 ta0 rfl
      refine lv_aload_n hx hb dX10_isBroken_86 rfl (lv_at hl24 1 rfl) ?_
      obtain ⟨v30, ev30, tv30⟩ : ∃ v : Int32, Int32.ofInt (0) = v ∧ v.toInt = 0 := ⟨_, rfl, by decide +kernel⟩
      refine lv_iconst hx hb dX10_isBroken_87 ev30 ?_
      refine tr_puti Z.1 Z.2.2.2.1 S27.1 S27.2 ha0 ta0 rfl rfl (fun _ h => List.mem_cons_of_mem _ (List.mem_append_right _ h)) tyX10_ok nmX10 31 (by decide) rfl rfl rfl (hts _ (List.mem_of_getElem? (i := 5) rfl)) dX10_isBroken_88 (by have := fb_rng v30; omega) (by have := fb_rng v30; omega) (fun E31 H32 k33 W31 I31 P31 => ?_)
      have S31 : Now D TB cy (va_A (va_pl L E) sz) s L τ E31 H32 k33 := ⟨W31, I31⟩
      have F31 : Fr L τ (inW [(11, 0)]) E E31 := Fr.put F27 P31 ta0 rfl
      refine lv_aload_n hx hb dX10_isBroken_91 rfl (lv_at hl24 1 rfl) ?_
      obtain ⟨v34, ev34, tv34⟩ : ∃ v : Int32, Int32.ofInt (1) = v ∧ v.toInt = 1 := ⟨_, rfl, by decide +kernel⟩
      refine lv_iconst hx hb dX10_isBroken_92 ev34 ?_
      refine tr_puti Z.1 Z.2.2.2.1 S31.1 S31.2 ha0 ta0 rfl rfl (fun _ h => List.mem_cons_of_mem _ (List.mem_append_right _ h)) tyX10_ok nmX10 32 (by decide) rfl rfl rfl (hts _ (List.mem_of_getElem? (i := 6) rfl)) dX10_isBroken_93 (by have := fb_rng v34; omega) (by have := fb_rng v34; omega) (fun E35 H36 k37 W35 I35 P35 => ?_)
      have S35 : Now D TB cy (va_A (va_pl L E) sz) s L τ E35 H36 k37 := ⟨W35, I35⟩
      have F35 : Fr L τ (inW [(11, 0)]) E E35 := Fr.put F31 P35 ta0 rfl
      obtain ⟨v38, ev38, tv38⟩ : ∃ v : Int32, Int32.ofInt (1) = v ∧ v.toInt = 1 := ⟨_, rfl, by decide +kernel⟩
      refine lv_iconst hx hb dX10_isBroken_96 ev38 ?_
      rw [← hQ]
      exact en_z Z S35 F35 (zo v38 (by omega)) ⟨(by omega), (by omega), (fun k hk => ((fi_put P35 (Or.inr (fw_ne (by decide) hk))).trans ((fi_put P31 (Or.inr (fw_ne (by decide) hk))).trans ((fi_put P27 (Or.inr (fw_ne (by decide) hk))).trans (z22 k hk)))))⟩ dX10_isBroken_97
    · skip
      have tc25 := nu_ne c25
      have uc25 : (0 : Int32).toInt = 0 := rfl
      obtain ⟨v39, ev39, tv39⟩ : ∃ v : Int32, Int32.ofInt (1) = v ∧ v.toInt = 1 := ⟨_, rfl, by decide +kernel⟩
      refine lv_iconst hx hb dX10_isBroken_79 ev39 ?_
      rw [← hQ]
      exact en_z Z S_74 F_74 (zo v39 (by omega)) ⟨(by omega), (by omega), (fun k hk => (z22 k hk))⟩ dX10_isBroken_80
  have J73 : ∀  (E_73 : Ec) (H_73 : Heap) (k_73 : List Loc) (l_73 : Array Slot), Now D TB cy (va_A (va_pl L E) sz) s L τ E_73 H_73 k_73 → Fr L τ (inW [(11, 0)]) E E_73 → (∀ k : Nat, k ∉ ([30, 31, 32] : List Nat) → fi E_73 a0 k = fi E a0 k) → lv_has l_73 4 [(0, .ref a0)] → W p l e { frames := 3, cells := 0, slots := 0, locals := 72 } s m args below meth c H_73 k_73 0 0 QQ (F0 m 73 l_73 []) := by
    intro  E_73 H_73 k_73 l_73 S_73 F_73 z40 hl_73
    obtain ⟨v41, ev41, tv41⟩ : ∃ v : Int32, Int32.ofInt (0) = v ∧ v.toInt = 0 := ⟨_, rfl, by decide +kernel⟩
    refine lv_iconst hx hb dX10_isBroken_73 ev41 ?_
    exact J74 v41 E_73 H_73 k_73 l_73 S_73 F_73 (by omega) (by omega) (fun k hk => (z40 k hk)) (lv_sub hl_73 [0] rfl)
  have J34 : ∀ (n : Nat) (x2_34 : Int32) (x3_34 : Int32) (E_34 : Ec) (H_34 : Heap) (k_34 : List Loc) (l_34 : Array Slot), Now D TB cy (va_A (va_pl L E) sz) s L τ E_34 H_34 k_34 → Fr L τ (inW [(11, 0)]) E E_34 → (0 ≤ a1.toInt) → (a1.toInt ≤ 49) → (-1 ≤ x2_34.toInt) → (x2_34.toInt ≤ 66) → (0 ≤ x3_34.toInt) → (x3_34.toInt ≤ 66) → (x2_34.toInt + (ai E ql a1.toInt.toNat).toInt ≤ 66) → (∀ k : Nat, k ∉ ([30, 31, 32] : List Nat) → fi E_34 a0 k = fi E a0 k) → (66 - x3_34.toInt).toNat < n → lv_has l_34 4 [(0, .ref a0), (1, .int a1), (2, .int x2_34), (3, .int x3_34)] → W p l e { frames := 3, cells := 0, slots := 0, locals := 72 } s m args below meth c H_34 k_34 0 0 QQ (F0 m 34 l_34 []) := by
    intro n
    induction n with
    | zero => intro x2_34 x3_34 E_34 H_34 k_34 l_34 S_34 F_34 z42 z43 z44 z45 z46 z47 z48 z49 hm hl_34; exact absurd hm (Nat.not_lt_zero _)
    | succ n ih =>
      intro x2_34 x3_34 E_34 H_34 k_34 l_34 S_34 F_34 z42 z43 z44 z45 z46 z47 z48 z49 hm hl_34
      have ih_34 := ih
      refine lv_iload_n hx hb dX10_isBroken_34 rfl (lv_at hl_34 3 rfl) ?_
      refine lv_iload_n hx hb dX10_isBroken_35 rfl (lv_at hl_34 2 rfl) ?_
      refine lv_icmp_ge (tgt := 56) hx hb dX10_isBroken_36 (by decide) (fun c50 => ?_) (fun c50 => ?_)
      · skip
        have tc50 := nu_le c50
        refine lv_iload_n hx hb dX10_isBroken_56 rfl (lv_at hl_34 2 rfl) ?_
        refine lv_if_le (tgt := 73) hx hb dX10_isBroken_57 (by decide) (fun c51 => ?_) (fun c51 => ?_)
        · skip
          have tc51 := nu_le c51
          have uc51 : (0 : Int32).toInt = 0 := rfl
          exact J73 E_34 H_34 k_34 l_34 S_34 F_34 (fun k hk => (z49 k hk)) (lv_sub hl_34 [0] rfl)
        · skip
          have tc51 := nu_nle c51
          have uc51 : (0 : Int32).toInt = 0 := rfl
          refine lv_aload_n hx hb dX10_isBroken_60 rfl (lv_at hl_34 0 rfl) ?_
          refine lv_iload_n hx hb dX10_isBroken_61 rfl (lv_at hl_34 1 rfl) ?_
          obtain ⟨v52, ev52, tv52⟩ : ∃ v : Int32, Int32.ofInt (0) = v ∧ v.toInt = 0 := ⟨_, rfl, by decide +kernel⟩
          refine lv_iconst hx hb dX10_isBroken_62 ev52 ?_
          refine tc_vi Z.1 Z.2.2.2.1 Z.2.2.2.2.1 Z.2.2.2.2.2 S_34.1 S_34.2 ha0 ta0 rfl rfl (k_X10_breaks l D cy S_34.2 ha0 ta0 a1 (by omega) (by omega) v52 (by omega) (by omega) hql tql hqr tqr hqm tqm hqd tqd (by rw [(ai_fr F_34 hql (by rw [tql]; rfl))]; omega) (SlotOK.fr F_34 rfl rfl rfl rfl hS)) (cwV 2 hts gX10_isBroken_X10_breaks rfl rfl rfl (by decide +kernel) ⟨Nat.le_of_ble_eq_true rfl, Nat.le_of_ble_eq_true rfl⟩) rfl hl_34.1 rfl (Nat.le_of_ble_eq_true rfl) dX10_isBroken_63 ⟨Nat.zero_le _, Nat.zero_le _⟩ (fun v56 E53 H54 k55 W53 I53 G53 p53 => ?_)
          obtain ⟨p53_0, p53_1, p53_2⟩ := p53
          have S53 : Now D TB cy (va_A (va_pl L E) sz) s L τ E53 H54 k55 := ⟨W53, I53⟩
          have F53 : Fr L τ (inW [(11, 0)]) E E53 := F_34.trans (G53.mono (inW_mono (by decide)))
          refine lv_if_eq (tgt := 73) hx hb dX10_isBroken_66 (by decide) (fun c57 => ?_) (fun c57 => ?_)
          · skip
            have tc57 := nu_eq c57
            have uc57 : (0 : Int32).toInt = 0 := rfl
            exact J73 E53 H54 k55 l_34 S53 F53 (fun k hk => ((p53_2 k (fw_sub (by decide) hk)).trans (z49 k hk))) (lv_sub hl_34 [0] rfl)
          · skip
            have tc57 := nu_ne c57
            have uc57 : (0 : Int32).toInt = 0 := rfl
            obtain ⟨v58, ev58, tv58⟩ : ∃ v : Int32, Int32.ofInt (1) = v ∧ v.toInt = 1 := ⟨_, rfl, by decide +kernel⟩
            refine lv_iconst hx hb dX10_isBroken_69 ev58 ?_
            refine lv_goto (tgt := 74) hx hb dX10_isBroken_70 (by decide) ?_
            exact J74 v58 E53 H54 k55 l_34 S53 F53 (by omega) (by omega) (fun k hk => ((p53_2 k (fw_sub (by decide) hk)).trans (z49 k hk))) (lv_sub hl_34 [0] rfl)
      · skip
        have tc50 := nu_nle c50
        refine lv_aload_n hx hb dX10_isBroken_39 rfl (lv_at hl_34 0 rfl) ?_
        refine lv_iload_n hx hb dX10_isBroken_40 rfl (lv_at hl_34 1 rfl) ?_
        refine lv_iload_n hx hb dX10_isBroken_41 rfl (lv_at hl_34 3 rfl) ?_
        refine tc_vi Z.1 Z.2.2.2.1 Z.2.2.2.2.1 Z.2.2.2.2.2 S_34.1 S_34.2 ha0 ta0 rfl rfl (k_X10_breaks l D cy S_34.2 ha0 ta0 a1 (by omega) (by omega) x3_34 (by omega) (by omega) hql tql hqr tqr hqm tqm hqd tqd (by rw [(ai_fr F_34 hql (by rw [tql]; rfl))]; omega) (SlotOK.fr F_34 rfl rfl rfl rfl hS)) (cwV 2 hts gX10_isBroken_X10_breaks rfl rfl rfl (by decide +kernel) ⟨Nat.le_of_ble_eq_true rfl, Nat.le_of_ble_eq_true rfl⟩) rfl hl_34.1 rfl (Nat.le_of_ble_eq_true rfl) dX10_isBroken_42 ⟨Nat.zero_le _, Nat.zero_le _⟩ (fun v62 E59 H60 k61 W59 I59 G59 p59 => ?_)
        obtain ⟨p59_0, p59_1, p59_2⟩ := p59
        have S59 : Now D TB cy (va_A (va_pl L E) sz) s L τ E59 H60 k61 := ⟨W59, I59⟩
        have F59 : Fr L τ (inW [(11, 0)]) E E59 := F_34.trans (G59.mono (inW_mono (by decide)))
        refine lv_if_ne (tgt := 50) hx hb dX10_isBroken_45 (by decide) (fun c63 => ?_) (fun c63 => ?_)
        · skip
          have tc63 := nu_ne c63
          have uc63 : (0 : Int32).toInt = 0 := rfl
          obtain ⟨v64, ev64⟩ : ∃ y : Int32, x3_34 + Int32.ofInt (1) = y := ⟨_, rfl⟩
          have tv64 : v64.toInt = x3_34.toInt + (1) := by rw [← ev64]; exact (fb_addI (by rw [show (Int32.ofInt (1)).toInt = 1 from by decide +kernel]; omega) (by rw [show (Int32.ofInt (1)).toInt = 1 from by decide +kernel]; omega)).trans (by rw [show (Int32.ofInt (1)).toInt = 1 from by decide +kernel])
          refine lv_iinc (v := v64) (lv' := [(3, .int v64), (0, .ref a0), (1, .int a1), (2, .int x2_34)]) hx hb dX10_isBroken_50 hl_34 (k := 3) rfl ev64 (by decide) rfl (fun l65 hl66 => ?_)
          refine lv_goto (tgt := 34) hx hb dX10_isBroken_53 (by decide) ?_
          exact ih_34 x2_34 v64 E59 H60 k61 l65 S59 F59 (by omega) (by omega) (by omega) (by omega) (by omega) (by omega) (by omega) (fun k hk => ((p59_2 k (fw_sub (by decide) hk)).trans (z49 k hk))) (by omega) (lv_sub hl66 [1, 2, 3, 0] rfl)
        · skip
          have tc63 := nu_eq c63
          have uc63 : (0 : Int32).toInt = 0 := rfl
          obtain ⟨v67, ev67, tv67⟩ : ∃ v : Int32, Int32.ofInt (0) = v ∧ v.toInt = 0 := ⟨_, rfl, by decide +kernel⟩
          refine lv_iconst hx hb dX10_isBroken_48 ev67 ?_
          rw [← hQ]
          exact en_z Z S59 F59 (zo v67 (by omega)) ⟨(by omega), (by omega), (fun k hk => ((p59_2 k (fw_sub (by decide) hk)).trans (z49 k hk)))⟩ dX10_isBroken_49
  have J22 : ∀ (y0_22 : Int32) (E_22 : Ec) (H_22 : Heap) (k_22 : List Loc) (l_22 : Array Slot), Now D TB cy (va_A (va_pl L E) sz) s L τ E_22 H_22 k_22 → Fr L τ (inW [(11, 0)]) E E_22 → (0 ≤ a1.toInt) → (a1.toInt ≤ 49) → (-1 ≤ y0_22.toInt) → (y0_22.toInt ≤ 66) → (y0_22.toInt + (ai E ql a1.toInt.toNat).toInt ≤ 66) → (∀ k : Nat, k ∉ ([30, 31, 32] : List Nat) → fi E_22 a0 k = fi E a0 k) → lv_has l_22 4 [(0, .ref a0), (1, .int a1)] → W p l e { frames := 3, cells := 0, slots := 0, locals := 72 } s m args below meth c H_22 k_22 0 0 QQ (F0 m 22 l_22 [.int y0_22]) := by
    intro y0_22 E_22 H_22 k_22 l_22 S_22 F_22 z68 z69 z70 z71 z72 z73 hl_22
    refine lv_istore_n (lv' := [(2, .int y0_22), (0, .ref a0), (1, .int a1)]) hx hb dX10_isBroken_22 rfl hl_22 (by decide) rfl (fun l74 hl75 => ?_)
    refine lv_aload_n hx hb dX10_isBroken_23 rfl (lv_at hl75 1 rfl) ?_
    refine tr_getr Z.1 Z.2.2.2.1 S_22.1 S_22.2 ha0 ta0 rfl rfl (fun _ h => List.mem_cons_of_mem _ (List.mem_append_right _ h)) 23 (by decide) rfl (hts _ (List.mem_of_getElem? (i := 3) rfl)) dX10_isBroken_24 (fun q76 eq76 hq76 tq76 => ?_)
    have tq76 : τ q76 = (74, 0) := tq76
    refine lv_iload_n hx hb dX10_isBroken_27 rfl (lv_at hl75 2 rfl) ?_
    refine tr_zald Z.1 Z.2.2.2.1 S_22.1 S_22.2 hq76 tq76 rfl (by omega) (by omega) dX10_isBroken_28 (fun v77 ev77 lv77 uv77 => ?_)
    refine lv_if_eq (tgt := 98) hx hb dX10_isBroken_29 (by decide) (fun c78 => ?_) (fun c78 => ?_)
    · skip
      have tc78 := nu_eq c78
      have uc78 : (0 : Int32).toInt = 0 := rfl
      obtain ⟨v79, ev79, tv79⟩ : ∃ v : Int32, Int32.ofInt (0) = v ∧ v.toInt = 0 := ⟨_, rfl, by decide +kernel⟩
      refine lv_iconst hx hb dX10_isBroken_98 ev79 ?_
      refine lv_istore_n (lv' := [(3, .int v79), (2, .int y0_22), (0, .ref a0), (1, .int a1)]) hx hb dX10_isBroken_99 rfl hl75 (by decide) rfl (fun l80 hl81 => ?_)
      exact J100 _ y0_22 v79 E_22 H_22 k_22 l80 S_22 F_22 (by omega) (by omega) (by omega) (by omega) (by omega) (by omega) (by omega) (fun k hk => (z73 k hk)) (Nat.lt_succ_self _) (lv_sub hl81 [2, 3, 1, 0] rfl)
    · skip
      have tc78 := nu_ne c78
      have uc78 : (0 : Int32).toInt = 0 := rfl
      obtain ⟨v82, ev82, tv82⟩ : ∃ v : Int32, Int32.ofInt (0) = v ∧ v.toInt = 0 := ⟨_, rfl, by decide +kernel⟩
      refine lv_iconst hx hb dX10_isBroken_32 ev82 ?_
      refine lv_istore_n (lv' := [(3, .int v82), (2, .int y0_22), (0, .ref a0), (1, .int a1)]) hx hb dX10_isBroken_33 rfl hl75 (by decide) rfl (fun l83 hl84 => ?_)
      exact J34 _ y0_22 v82 E_22 H_22 k_22 l83 S_22 F_22 (by omega) (by omega) (by omega) (by omega) (by omega) (by omega) (by omega) (fun k hk => (z73 k hk)) (Nat.lt_succ_self _) (lv_sub hl84 [2, 3, 1, 0] rfl)
  refine lv_aload_n hx hb dX10_isBroken_0 rfl (lv_at hl 0 rfl) ?_
  refine tr_getr Z.1 Z.2.2.2.1 S0.1 S0.2 ha0 ta0 rfl rfl (fun _ h => List.mem_cons_of_mem _ (List.mem_append_right _ h)) 24 (by decide) rfl (hts _ (List.mem_of_getElem? (i := 1) rfl)) dX10_isBroken_1 (fun q85 eq85 hq85 tq85 => ?_)
  have tq85 : τ q85 = (75, 0) := tq85
  have uq85 : ql = q85 := S0.2.2.2.2 _ hql _ hq85 (tql.trans tq85.symm) (by rw [tql]; rfl)
  subst uq85
  refine lv_iload_n hx hb dX10_isBroken_4 rfl (lv_at hl 1 rfl) ?_
  refine tr_zald Z.1 Z.2.2.2.1 S0.1 S0.2 hql tql rfl (by omega) (by omega) dX10_isBroken_5 (fun v86 ev86 lv86 uv86 => ?_)
  refine lv_if_eq (tgt := 18) hx hb dX10_isBroken_6 (by decide) (fun c87 => ?_) (fun c87 => ?_)
  · skip
    have tc87 := nu_eq c87
    have uc87 : (0 : Int32).toInt = 0 := rfl
    refine lv_aload_n hx hb dX10_isBroken_18 rfl (lv_at hl 0 rfl) ?_
    refine tr_geti Z.1 Z.2.2.2.1 S0.1 S0.2 ha0 ta0 rfl rfl (fun _ h => List.mem_cons_of_mem _ (List.mem_append_right _ h)) 8 (by decide) rfl (hts _ (List.mem_of_getElem? (i := 2) rfl)) dX10_isBroken_19 (fun v88 ev88 lv88 uv88 => ?_)
    exact J22 v88 E s.heap [] ls S0 F0_ (by omega) (by omega) (by omega) (by omega) (by have q : ai E ql a1.toInt.toNat = v86 := ev86; rw [q]; omega) (fun k hk => ((fun k hk => rfl) k hk)) (lv_sub hl [0, 1] rfl)
  · skip
    have tc87 := nu_ne c87
    have uc87 : (0 : Int32).toInt = 0 := rfl
    refine lv_aload_n hx hb dX10_isBroken_9 rfl (lv_at hl 0 rfl) ?_
    refine tr_geti Z.1 Z.2.2.2.1 S0.1 S0.2 ha0 ta0 rfl rfl (fun _ h => List.mem_cons_of_mem _ (List.mem_append_right _ h)) 8 (by decide) rfl (hts _ (List.mem_of_getElem? (i := 2) rfl)) dX10_isBroken_10 (fun v89 ev89 lv89 uv89 => ?_)
    obtain ⟨v90, ev90, tv90⟩ : ∃ v : Int32, Int32.ofInt (1) = v ∧ v.toInt = 1 := ⟨_, rfl, by decide +kernel⟩
    refine lv_iconst hx hb dX10_isBroken_13 ev90 ?_
    refine lv_isub hx hb dX10_isBroken_14 ?_
    refine lv_topi (fun v91 ev91 => ?_)
    have tv91 := nu_sub ev91 (by omega) (by omega)
    refine lv_goto (tgt := 22) hx hb dX10_isBroken_15 (by decide) ?_
    exact J22 v91 E s.heap [] ls S0 F0_ (by omega) (by omega) (by omega) (by omega) (by have q : ai E ql a1.toInt.toNat = v86 := ev86; rw [q]; omega) (fun k hk => ((fun k hk => rfl) k hk)) (lv_sub hl [0, 1] rfl)

set_option maxRecDepth 20000 in
theorem ggX10_firstBroken_X10_isBroken : GoodIn wsX10_firstBroken wsX10_isBroken := goodIn_r _ [6, 7, 8, 9, 10, 11, 12, 13, 14, 15, 5, 16, 17, 18, 19, 20, 21, 22, 23, 24, 25, 26, 27, 28, 29, 30, 31, 32, 33, 1, 34, 35, 36, 37, 38, 39, 40, 41, 42, 43, 44, 45, 46, 47, 48, 49, 50, 51, 52, 53, 54, 55, 56, 57, 58, 59, 60, 61, 62, 63, 64, 65, 66, 67, 68, 69, 70, 71, 72, 73, 74, 75, 76, 77, 78, 79, 80, 81, 82] (by decide +kernel) (by decide +kernel)
set_option maxRecDepth 20000 in
theorem gX10_firstBroken_X10_isBroken : GoodIn wsX10_firstBroken (wsV RX10 232 RX10 yX10_isBroken wsX10_isBroken) := goodIn_app (goodIn_of _ (by decide +kernel)) ggX10_firstBroken_X10_isBroken
theorem dX10_firstBroken_0 : decode cX10_firstBroken 0 = .ok (.iconst 0, 1) := by decide +kernel
theorem dX10_firstBroken_1 : decode cX10_firstBroken 1 = .ok (.istore_n 1, 1) := by decide +kernel
theorem dX10_firstBroken_2 : decode cX10_firstBroken 2 = .ok (.iload_n 1, 1) := by decide +kernel
theorem dX10_firstBroken_3 : decode cX10_firstBroken 3 = .ok (.aload_n 0, 1) := by decide +kernel
theorem dX10_firstBroken_4 : decode cX10_firstBroken 4 = .ok (.getfield 7, 3) := by decide +kernel
theorem dX10_firstBroken_7 : decode cX10_firstBroken 7 = .ok (.bipush 44, 2) := by decide +kernel
theorem dX10_firstBroken_9 : decode cX10_firstBroken 9 = .ok (.iaload, 1) := by decide +kernel
theorem dX10_firstBroken_10 : decode cX10_firstBroken 10 = .ok (.if_icmp .ge 27, 3) := by decide +kernel
theorem dX10_firstBroken_13 : decode cX10_firstBroken 13 = .ok (.aload_n 0, 1) := by decide +kernel
theorem dX10_firstBroken_14 : decode cX10_firstBroken 14 = .ok (.aload_n 0, 1) := by decide +kernel
theorem dX10_firstBroken_15 : decode cX10_firstBroken 15 = .ok (.getfield 7, 3) := by decide +kernel
theorem dX10_firstBroken_18 : decode cX10_firstBroken 18 = .ok (.bipush 45, 2) := by decide +kernel
theorem dX10_firstBroken_20 : decode cX10_firstBroken 20 = .ok (.iload_n 1, 1) := by decide +kernel
theorem dX10_firstBroken_21 : decode cX10_firstBroken 21 = .ok (.iadd, 1) := by decide +kernel
theorem dX10_firstBroken_22 : decode cX10_firstBroken 22 = .ok (.iaload, 1) := by decide +kernel
theorem dX10_firstBroken_23 : decode cX10_firstBroken 23 = .ok (.invokevirtual 232, 3) := by decide +kernel
theorem dX10_firstBroken_26 : decode cX10_firstBroken 26 = .ok (.ifCond .eq 5, 3) := by decide +kernel
theorem dX10_firstBroken_29 : decode cX10_firstBroken 29 = .ok (.iload_n 1, 1) := by decide +kernel
theorem dX10_firstBroken_30 : decode cX10_firstBroken 30 = .ok (.ireturn, 1) := by decide +kernel
theorem dX10_firstBroken_31 : decode cX10_firstBroken 31 = .ok (.iinc 1 1, 3) := by decide +kernel
theorem dX10_firstBroken_34 : decode cX10_firstBroken 34 = .ok (.goto (-32), 3) := by decide +kernel
theorem dX10_firstBroken_37 : decode cX10_firstBroken 37 = .ok (.bipush (-2), 2) := by decide +kernel
theorem dX10_firstBroken_39 : decode cX10_firstBroken 39 = .ok (.ireturn, 1) := by decide +kernel
set_option maxHeartbeats 4000000 in
set_option maxRecDepth 100000 in
theorem k_X10_firstBroken (l : Launch) (D : va_G) (cy : Nat → ClassId) {L : List Nat} {τ : Nat → Ro} {E : Ec} (hI : Inv TB cy L τ E) {a0 : Nat} (ha0 : a0 ∈ L) (ta0 : τ a0 = (11, 0)) (hS : SlotOK L τ E) : CtI l yX10_firstBroken wsX10_firstBroken { frames := 4, cells := 0, slots := 0, locals := 95 } D TB cy L τ E [.ref a0] (inW [(11, 0)]) (fun r E' => -2 ≤ r.toInt ∧ r.toInt ≤ 7 ∧ (∀ k : Nat, k ∉ ([30, 31, 32] : List Nat) → fi E' a0 k = fi E a0 k)) := by
  intro sz
  refine sta (cc := cX10_firstBroken) (maxL := 2) hI (by decide) rfl (Nat.le_of_ble_eq_true rfl) (fun p e s m args below meth c ls hsz Z S0 hl => ?_)
  have hx := Z.1.1
  have hb := Z.1.2.1
  have hts := Z.1.2.2.2.2
  have F0_ : Fr L τ (inW [(11, 0)]) E E := Fr.refl
  have hl : lv_has ls 2 [(0, .ref a0)] := hl
  generalize hQ : MQ below _ args s 0 0 _ = QQ
  have J2 : ∀ (n : Nat) (x1_2 : Int32) (E_2 : Ec) (H_2 : Heap) (k_2 : List Loc) (l_2 : Array Slot), Now D TB cy (va_A (va_pl L E) sz) s L τ E_2 H_2 k_2 → Fr L τ (inW [(11, 0)]) E E_2 → (0 ≤ x1_2.toInt) → (x1_2.toInt ≤ 8) → (∀ k : Nat, k ∉ ([30, 31, 32] : List Nat) → fi E_2 a0 k = fi E a0 k) → (8 - x1_2.toInt).toNat < n → lv_has l_2 2 [(0, .ref a0), (1, .int x1_2)] → W p l e { frames := 4, cells := 0, slots := 0, locals := 95 } s m args below meth c H_2 k_2 0 0 QQ (F0 m 2 l_2 []) := by
    intro n
    induction n with
    | zero => intro x1_2 E_2 H_2 k_2 l_2 S_2 F_2 z1 z2 z3 hm hl_2; exact absurd hm (Nat.not_lt_zero _)
    | succ n ih =>
      intro x1_2 E_2 H_2 k_2 l_2 S_2 F_2 z1 z2 z3 hm hl_2
      have ih_2 := ih
      refine lv_iload_n hx hb dX10_firstBroken_2 rfl (lv_at hl_2 1 rfl) ?_
      refine lv_aload_n hx hb dX10_firstBroken_3 rfl (lv_at hl_2 0 rfl) ?_
      refine tr_getr Z.1 Z.2.2.2.1 S_2.1 S_2.2 ha0 ta0 rfl rfl (fun _ h => List.mem_cons_of_mem _ (List.mem_append_right _ h)) 0 (by decide) rfl (hts _ (List.mem_of_getElem? (i := 1) rfl)) dX10_firstBroken_4 (fun q4 eq4 hq4 tq4 => ?_)
      have tq4 : τ q4 = (60, 0) := tq4
      obtain ⟨v5, ev5, tv5⟩ : ∃ v : Int32, (Int8.ofInt (44)).toInt32 = v ∧ v.toInt = 44 := ⟨_, rfl, by decide +kernel⟩
      refine lv_bipush hx hb dX10_firstBroken_7 ev5 ?_
      refine tr_ialdx Z.1 Z.2.2.2.1 S_2.1 S_2.2 hq4 tq4 rfl (by omega) (by omega) dX10_firstBroken_9 (fun v6 ev6 lv6 uv6 => ?_)
      have bv6 : nowB v5.toNatClampNeg = (0, 8) := nb_44 (by show v5.toInt.toNat = 44; omega)
      rw [bv6] at lv6 uv6
      have lv6 : 0 ≤ v6.toInt := lv6
      have uv6 : v6.toInt ≤ 8 := uv6
      have av6 : ai E_2 q4 44 = v6 := ai_at ev6 (by omega)
      refine lv_icmp_ge (tgt := 37) hx hb dX10_firstBroken_10 (by decide) (fun c7 => ?_) (fun c7 => ?_)
      · skip
        have tc7 := nu_le c7
        obtain ⟨v8, ev8, tv8⟩ : ∃ v : Int32, (Int8.ofInt (-2)).toInt32 = v ∧ v.toInt = -2 := ⟨_, rfl, by decide +kernel⟩
        refine lv_bipush hx hb dX10_firstBroken_37 ev8 ?_
        rw [← hQ]
        exact en_i Z S_2 F_2 ⟨(by omega), (by omega), (fun k hk => (z3 k hk))⟩ dX10_firstBroken_39
      · skip
        have tc7 := nu_nle c7
        refine lv_aload_n hx hb dX10_firstBroken_13 rfl (lv_at hl_2 0 rfl) ?_
        refine lv_aload_n hx hb dX10_firstBroken_14 rfl (lv_at hl_2 0 rfl) ?_
        refine tr_getr Z.1 Z.2.2.2.1 S_2.1 S_2.2 ha0 ta0 rfl rfl (fun _ h => List.mem_cons_of_mem _ (List.mem_append_right _ h)) 0 (by decide) rfl (hts _ (List.mem_of_getElem? (i := 1) rfl)) dX10_firstBroken_15 (fun q9 eq9 hq9 tq9 => ?_)
        have tq9 : τ q9 = (60, 0) := tq9
        have uq9 : q4 = q9 := S_2.2.2.2.2 _ hq4 _ hq9 (tq4.trans tq9.symm) (by rw [tq4]; rfl)
        subst uq9
        obtain ⟨v10, ev10, tv10⟩ : ∃ v : Int32, (Int8.ofInt (45)).toInt32 = v ∧ v.toInt = 45 := ⟨_, rfl, by decide +kernel⟩
        refine lv_bipush hx hb dX10_firstBroken_18 ev10 ?_
        refine lv_iload_n hx hb dX10_firstBroken_20 rfl (lv_at hl_2 1 rfl) ?_
        refine lv_iadd hx hb dX10_firstBroken_21 ?_
        refine lv_topi (fun v11 ev11 => ?_)
        have tv11 := nu_add ev11 (by omega) (by omega)
        refine tr_ialdx Z.1 Z.2.2.2.1 S_2.1 S_2.2 hq4 tq4 rfl (by omega) (by omega) dX10_firstBroken_22 (fun v12 ev12 lv12 uv12 => ?_)
        have bv12 : nowB v11.toNatClampNeg = (0, 49) := nb_45 (by show 45 ≤ v11.toInt.toNat ∧ v11.toInt.toNat ≤ 52; omega)
        rw [bv12] at lv12 uv12
        have lv12 : 0 ≤ v12.toInt := lv12
        have uv12 : v12.toInt ≤ 49 := uv12
        refine tc_vi Z.1 Z.2.2.2.1 Z.2.2.2.2.1 Z.2.2.2.2.2 S_2.1 S_2.2 ha0 ta0 rfl rfl (k_X10_isBroken l D cy S_2.2 ha0 ta0 v12 (by omega) (by omega) (SlotOK.fr F_2 rfl rfl rfl rfl hS)) (cwV 1 hts gX10_firstBroken_X10_isBroken rfl rfl rfl (by decide +kernel) ⟨Nat.le_of_ble_eq_true rfl, Nat.le_of_ble_eq_true rfl⟩) rfl hl_2.1 rfl (Nat.le_of_ble_eq_true rfl) dX10_firstBroken_23 ⟨Nat.zero_le _, Nat.zero_le _⟩ (fun v16 E13 H14 k15 W13 I13 G13 p13 => ?_)
        obtain ⟨p13_0, p13_1, p13_2⟩ := p13
        have S13 : Now D TB cy (va_A (va_pl L E) sz) s L τ E13 H14 k15 := ⟨W13, I13⟩
        have F13 : Fr L τ (inW [(11, 0)]) E E13 := F_2.trans (G13.mono (inW_mono (by decide)))
        refine lv_if_eq (tgt := 31) hx hb dX10_firstBroken_26 (by decide) (fun c17 => ?_) (fun c17 => ?_)
        · skip
          have tc17 := nu_eq c17
          have uc17 : (0 : Int32).toInt = 0 := rfl
          obtain ⟨v18, ev18⟩ : ∃ y : Int32, x1_2 + Int32.ofInt (1) = y := ⟨_, rfl⟩
          have tv18 : v18.toInt = x1_2.toInt + (1) := by rw [← ev18]; exact (fb_addI (by rw [show (Int32.ofInt (1)).toInt = 1 from by decide +kernel]; omega) (by rw [show (Int32.ofInt (1)).toInt = 1 from by decide +kernel]; omega)).trans (by rw [show (Int32.ofInt (1)).toInt = 1 from by decide +kernel])
          refine lv_iinc (v := v18) (lv' := [(1, .int v18), (0, .ref a0)]) hx hb dX10_firstBroken_31 hl_2 (k := 1) rfl ev18 (by decide) rfl (fun l19 hl20 => ?_)
          refine lv_goto (tgt := 2) hx hb dX10_firstBroken_34 (by decide) ?_
          exact ih_2 v18 E13 H14 k15 l19 S13 F13 (by omega) (by omega) (fun k hk => ((p13_2 k (fw_sub (by decide) hk)).trans (z3 k hk))) (by omega) (lv_sub hl20 [1, 0] rfl)
        · skip
          have tc17 := nu_ne c17
          have uc17 : (0 : Int32).toInt = 0 := rfl
          refine lv_iload_n hx hb dX10_firstBroken_29 rfl (lv_at hl_2 1 rfl) ?_
          rw [← hQ]
          exact en_i Z S13 F13 ⟨(by omega), (by omega), (fun k hk => ((p13_2 k (fw_sub (by decide) hk)).trans (z3 k hk)))⟩ dX10_firstBroken_30
  obtain ⟨v21, ev21, tv21⟩ : ∃ v : Int32, Int32.ofInt (0) = v ∧ v.toInt = 0 := ⟨_, rfl, by decide +kernel⟩
  refine lv_iconst hx hb dX10_firstBroken_0 ev21 ?_
  refine lv_istore_n (lv' := [(1, .int v21), (0, .ref a0)]) hx hb dX10_firstBroken_1 rfl hl (by decide) rfl (fun l22 hl23 => ?_)
  exact J2 _ v21 E s.heap [] l22 S0 F0_ (by omega) (by omega) (fun k hk => ((fun k hk => rfl) k hk)) (Nat.lt_succ_self _) (lv_sub hl23 [1, 0] rfl)

set_option maxRecDepth 20000 in
theorem ggX10_may_X10_asTold : GoodIn wsX10_may wsX10_asTold := goodIn_r _ [6, 7, 8, 9, 10, 11, 5, 12, 13, 14, 15, 16, 17, 18, 19, 20, 21, 22, 23, 24, 25, 26, 27, 28, 29, 30, 61, 62, 63, 64, 65, 66, 67, 68, 69, 70, 71, 72, 73, 74, 75, 76, 77, 78, 79, 80, 81, 82, 83, 84, 85, 86, 87, 88, 89, 90, 91, 92, 93, 94, 95, 96, 97, 98, 99, 100, 101, 102, 103, 104, 105, 106, 107, 108] (by decide +kernel) (by decide +kernel)
set_option maxRecDepth 20000 in
theorem gX10_may_X10_asTold : GoodIn wsX10_may (wsV RX10 134 RX10 yX10_asTold wsX10_asTold) := goodIn_app (goodIn_of _ (by decide +kernel)) ggX10_may_X10_asTold
set_option maxRecDepth 20000 in
theorem ggX10_may_X10_firstBroken : GoodIn wsX10_may wsX10_firstBroken := goodIn_r _ [34, 8, 35, 36, 37, 5, 38, 39, 13, 40, 41, 42, 43, 44, 45, 46, 47, 48, 49, 50, 51, 52, 53, 54, 55, 56, 57, 58, 59, 60, 14, 17, 28, 18, 27, 61, 62, 63, 64, 65, 66, 67, 68, 69, 70, 71, 72, 73, 74, 75, 76, 77, 78, 79, 80, 81, 82, 83, 84, 85, 86, 87, 88, 89, 90, 91, 92, 93, 94, 95, 96, 97, 98, 99, 100, 101, 102, 103, 104, 105, 106, 107, 108] (by decide +kernel) (by decide +kernel)
set_option maxRecDepth 20000 in
theorem gX10_may_X10_firstBroken : GoodIn wsX10_may (wsV RX10 235 RX10 yX10_firstBroken wsX10_firstBroken) := goodIn_app (goodIn_of _ (by decide +kernel)) ggX10_may_X10_firstBroken
theorem dX10_may_0 : decode cX10_may 0 = .ok (.aload_n 0, 1) := by decide +kernel
theorem dX10_may_1 : decode cX10_may 1 = .ok (.iconst 0, 1) := by decide +kernel
theorem dX10_may_2 : decode cX10_may 2 = .ok (.putfield 97, 3) := by decide +kernel
theorem dX10_may_5 : decode cX10_may 5 = .ok (.aload_n 0, 1) := by decide +kernel
theorem dX10_may_6 : decode cX10_may 6 = .ok (.invokevirtual 134, 3) := by decide +kernel
theorem dX10_may_9 : decode cX10_may 9 = .ok (.aload_n 0, 1) := by decide +kernel
theorem dX10_may_10 : decode cX10_may 10 = .ok (.invokevirtual 235, 3) := by decide +kernel
theorem dX10_may_13 : decode cX10_may 13 = .ok (.ireturn, 1) := by decide +kernel
set_option maxHeartbeats 4000000 in
set_option maxRecDepth 100000 in
theorem k_X10_may (l : Launch) (D : va_G) (cy : Nat → ClassId) {L : List Nat} {τ : Nat → Ro} {E : Ec} (hI : Inv TB cy L τ E) {a0 : Nat} (ha0 : a0 ∈ L) (ta0 : τ a0 = (11, 0)) (hS : SlotOK L τ E) : CtI l yX10_may wsX10_may { frames := 5, cells := 0, slots := 0, locals := 116 } D TB cy L τ E [.ref a0] (inW [(11, 0), (62, 0), (63, 0), (64, 0), (65, 0), (66, 0), (67, 0), (68, 0), (69, 0), (70, 0), (71, 0)]) (fun r E' => (∀ k : Nat, k ∉ ([4, 8, 30, 31, 32] : List Nat) → fi E' a0 k = fi E a0 k)) := by
  intro sz
  refine sta (cc := cX10_may) (maxL := 1) hI (by decide) rfl (Nat.le_of_ble_eq_true rfl) (fun p e s m args below meth c ls hsz Z S0 hl => ?_)
  have hx := Z.1.1
  have hb := Z.1.2.1
  have hts := Z.1.2.2.2.2
  have F0_ : Fr L τ (inW [(11, 0), (62, 0), (63, 0), (64, 0), (65, 0), (66, 0), (67, 0), (68, 0), (69, 0), (70, 0), (71, 0)]) E E := Fr.refl
  have hl : lv_has ls 1 [(0, .ref a0)] := hl
  generalize hQ : MQ below _ args s 0 0 _ = QQ
  refine lv_aload_n hx hb dX10_may_0 rfl (lv_at hl 0 rfl) ?_
  obtain ⟨v1, ev1, tv1⟩ : ∃ v : Int32, Int32.ofInt (0) = v ∧ v.toInt = 0 := ⟨_, rfl, by decide +kernel⟩
  refine lv_iconst hx hb dX10_may_1 ev1 ?_
  refine tr_puti Z.1 Z.2.2.2.1 S0.1 S0.2 ha0 ta0 rfl rfl (fun _ h => List.mem_cons_of_mem _ (List.mem_append_right _ h)) tyX10_ok nmX10 4 (by decide) rfl rfl rfl (hts _ (List.mem_of_getElem? (i := 1) rfl)) dX10_may_2 (by omega) (by omega) (fun E2 H3 k4 W2 I2 P2 => ?_)
  have S2 : Now D TB cy (va_A (va_pl L E) sz) s L τ E2 H3 k4 := ⟨W2, I2⟩
  have F2 : Fr L τ (inW [(11, 0), (62, 0), (63, 0), (64, 0), (65, 0), (66, 0), (67, 0), (68, 0), (69, 0), (70, 0), (71, 0)]) E E2 := Fr.put F0_ P2 ta0 rfl
  refine lv_aload_n hx hb dX10_may_5 rfl (lv_at hl 0 rfl) ?_
  refine tc_vv Z.1 Z.2.2.2.1 Z.2.2.2.2.1 Z.2.2.2.2.2 S2.1 S2.2 ha0 ta0 rfl rfl (k_X10_asTold l D cy S2.2 ha0 ta0) (cwV 0 hts gX10_may_X10_asTold rfl rfl rfl (by decide +kernel) ⟨Nat.le_of_ble_eq_true rfl, Nat.le_of_ble_eq_true rfl⟩) rfl hl.1 rfl (Nat.le_of_ble_eq_true rfl) dX10_may_6 ⟨Nat.zero_le _, Nat.zero_le _⟩ (fun E5 H6 k7 W5 I5 G5 p5 => ?_)
  have p5_0 := p5
  have S5 : Now D TB cy (va_A (va_pl L E) sz) s L τ E5 H6 k7 := ⟨W5, I5⟩
  have F5 : Fr L τ (inW [(11, 0), (62, 0), (63, 0), (64, 0), (65, 0), (66, 0), (67, 0), (68, 0), (69, 0), (70, 0), (71, 0)]) E E5 := F2.trans (G5.mono (inW_mono (by decide)))
  refine lv_aload_n hx hb dX10_may_9 rfl (lv_at hl 0 rfl) ?_
  refine tc_vi Z.1 Z.2.2.2.1 Z.2.2.2.2.1 Z.2.2.2.2.2 S5.1 S5.2 ha0 ta0 rfl rfl (k_X10_firstBroken l D cy S5.2 ha0 ta0 (SlotOK.fr F5 rfl rfl rfl rfl hS)) (cwV 0 hts gX10_may_X10_firstBroken rfl rfl rfl (by decide +kernel) ⟨Nat.le_of_ble_eq_true rfl, Nat.le_of_ble_eq_true rfl⟩) rfl hl.1 rfl (Nat.le_of_ble_eq_true rfl) dX10_may_10 ⟨Nat.zero_le _, Nat.zero_le _⟩ (fun v12 E9 H10 k11 W9 I9 G9 p9 => ?_)
  obtain ⟨p9_0, p9_1, p9_2⟩ := p9
  have S9 : Now D TB cy (va_A (va_pl L E) sz) s L τ E9 H10 k11 := ⟨W9, I9⟩
  have F9 : Fr L τ (inW [(11, 0), (62, 0), (63, 0), (64, 0), (65, 0), (66, 0), (67, 0), (68, 0), (69, 0), (70, 0), (71, 0)]) E E9 := F5.trans (G9.mono (inW_mono (by decide)))
  rw [← hQ]
  exact en_i Z S9 F9 (fun k hk => ((p9_2 k (fw_sub (by decide) hk)).trans ((p5_0 k (fw_sub (by decide) hk)).trans ((fi_put P2 (Or.inr (fw_ne (by decide) hk))).trans ((fun k hk => rfl) k hk))))) dX10_may_13

