theorem dX10_feed_0 : decode cX10_feed 0 = .ok (.aload_n 0, 1) := by decide +kernel
theorem dX10_feed_1 : decode cX10_feed 1 = .ok (.iconst 0, 1) := by decide +kernel
theorem dX10_feed_2 : decode cX10_feed 2 = .ok (.putfield 97, 3) := by decide +kernel
theorem dX10_feed_5 : decode cX10_feed 5 = .ok (.aload_n 0, 1) := by decide +kernel
theorem dX10_feed_6 : decode cX10_feed 6 = .ok (.getfield 148, 3) := by decide +kernel
theorem dX10_feed_9 : decode cX10_feed 9 = .ok (.bipush 20, 2) := by decide +kernel
theorem dX10_feed_11 : decode cX10_feed 11 = .ok (.iadd, 1) := by decide +kernel
theorem dX10_feed_12 : decode cX10_feed 12 = .ok (.bipush 120, 2) := by decide +kernel
theorem dX10_feed_14 : decode cX10_feed 14 = .ok (.if_icmp .le 5, 3) := by decide +kernel
theorem dX10_feed_17 : decode cX10_feed 17 = .ok (.iconst (-1), 1) := by decide +kernel
theorem dX10_feed_18 : decode cX10_feed 18 = .ok (.ireturn, 1) := by decide +kernel
theorem dX10_feed_19 : decode cX10_feed 19 = .ok (.iconst 0, 1) := by decide +kernel
theorem dX10_feed_20 : decode cX10_feed 20 = .ok (.istore 6, 2) := by decide +kernel
theorem dX10_feed_22 : decode cX10_feed 22 = .ok (.iload 6, 2) := by decide +kernel
theorem dX10_feed_24 : decode cX10_feed 24 = .ok (.bipush 20, 2) := by decide +kernel
theorem dX10_feed_26 : decode cX10_feed 26 = .ok (.if_icmp .ge 90, 3) := by decide +kernel
theorem dX10_feed_29 : decode cX10_feed 29 = .ok (.iload 6, 2) := by decide +kernel
theorem dX10_feed_31 : decode cX10_feed 31 = .ok (.iconst 4, 1) := by decide +kernel
theorem dX10_feed_32 : decode cX10_feed 32 = .ok (.if_icmp .ge 7, 3) := by decide +kernel
theorem dX10_feed_35 : decode cX10_feed 35 = .ok (.iload_n 1, 1) := by decide +kernel
theorem dX10_feed_36 : decode cX10_feed 36 = .ok (.goto 39, 3) := by decide +kernel
theorem dX10_feed_39 : decode cX10_feed 39 = .ok (.iload 6, 2) := by decide +kernel
theorem dX10_feed_41 : decode cX10_feed 41 = .ok (.bipush 8, 2) := by decide +kernel
theorem dX10_feed_43 : decode cX10_feed 43 = .ok (.if_icmp .ge 7, 3) := by decide +kernel
theorem dX10_feed_46 : decode cX10_feed 46 = .ok (.iload_n 2, 1) := by decide +kernel
theorem dX10_feed_47 : decode cX10_feed 47 = .ok (.goto 28, 3) := by decide +kernel
theorem dX10_feed_50 : decode cX10_feed 50 = .ok (.iload 6, 2) := by decide +kernel
theorem dX10_feed_52 : decode cX10_feed 52 = .ok (.bipush 12, 2) := by decide +kernel
theorem dX10_feed_54 : decode cX10_feed 54 = .ok (.if_icmp .ge 7, 3) := by decide +kernel
theorem dX10_feed_57 : decode cX10_feed 57 = .ok (.iload_n 3, 1) := by decide +kernel
theorem dX10_feed_58 : decode cX10_feed 58 = .ok (.goto 17, 3) := by decide +kernel
theorem dX10_feed_61 : decode cX10_feed 61 = .ok (.iload 6, 2) := by decide +kernel
theorem dX10_feed_63 : decode cX10_feed 63 = .ok (.bipush 16, 2) := by decide +kernel
theorem dX10_feed_65 : decode cX10_feed 65 = .ok (.if_icmp .ge 8, 3) := by decide +kernel
theorem dX10_feed_68 : decode cX10_feed 68 = .ok (.iload 4, 2) := by decide +kernel
theorem dX10_feed_70 : decode cX10_feed 70 = .ok (.goto 5, 3) := by decide +kernel
theorem dX10_feed_73 : decode cX10_feed 73 = .ok (.iload 5, 2) := by decide +kernel
theorem dX10_feed_75 : decode cX10_feed 75 = .ok (.istore 7, 2) := by decide +kernel
theorem dX10_feed_77 : decode cX10_feed 77 = .ok (.aload_n 0, 1) := by decide +kernel
theorem dX10_feed_78 : decode cX10_feed 78 = .ok (.getfield 50, 3) := by decide +kernel
theorem dX10_feed_81 : decode cX10_feed 81 = .ok (.aload_n 0, 1) := by decide +kernel
theorem dX10_feed_82 : decode cX10_feed 82 = .ok (.getfield 148, 3) := by decide +kernel
theorem dX10_feed_85 : decode cX10_feed 85 = .ok (.iload 7, 2) := by decide +kernel
theorem dX10_feed_87 : decode cX10_feed 87 = .ok (.bipush 24, 2) := by decide +kernel
theorem dX10_feed_89 : decode cX10_feed 89 = .ok (.bipush 8, 2) := by decide +kernel
theorem dX10_feed_91 : decode cX10_feed 91 = .ok (.iload 6, 2) := by decide +kernel
theorem dX10_feed_93 : decode cX10_feed 93 = .ok (.iconst 4, 1) := by decide +kernel
theorem dX10_feed_94 : decode cX10_feed 94 = .ok (.irem, 1) := by decide +kernel
theorem dX10_feed_95 : decode cX10_feed 95 = .ok (.imul, 1) := by decide +kernel
theorem dX10_feed_96 : decode cX10_feed 96 = .ok (.isub, 1) := by decide +kernel
theorem dX10_feed_97 : decode cX10_feed 97 = .ok (.ishr, 1) := by decide +kernel
theorem dX10_feed_98 : decode cX10_feed 98 = .ok (.i2b, 1) := by decide +kernel
theorem dX10_feed_99 : decode cX10_feed 99 = .ok (.bastore, 1) := by decide +kernel
theorem dX10_feed_100 : decode cX10_feed 100 = .ok (.aload_n 0, 1) := by decide +kernel
theorem dX10_feed_101 : decode cX10_feed 101 = .ok (.dup, 1) := by decide +kernel
theorem dX10_feed_102 : decode cX10_feed 102 = .ok (.getfield 148, 3) := by decide +kernel
theorem dX10_feed_105 : decode cX10_feed 105 = .ok (.iconst 1, 1) := by decide +kernel
theorem dX10_feed_106 : decode cX10_feed 106 = .ok (.iadd, 1) := by decide +kernel
theorem dX10_feed_107 : decode cX10_feed 107 = .ok (.putfield 148, 3) := by decide +kernel
theorem dX10_feed_110 : decode cX10_feed 110 = .ok (.iinc 6 1, 3) := by decide +kernel
theorem dX10_feed_113 : decode cX10_feed 113 = .ok (.goto (-91), 3) := by decide +kernel
theorem dX10_feed_116 : decode cX10_feed 116 = .ok (.aload_n 0, 1) := by decide +kernel
theorem dX10_feed_117 : decode cX10_feed 117 = .ok (.getfield 148, 3) := by decide +kernel
theorem dX10_feed_120 : decode cX10_feed 120 = .ok (.ireturn, 1) := by decide +kernel
set_option maxHeartbeats 4000000 in
set_option maxRecDepth 100000 in
theorem k_X10_feed (l : Launch) (D : va_G) (cy : Nat → ClassId) {L : List Nat} {τ : Nat → Ro} {E : Ec} (hI : Inv TB cy L τ E) {a0 : Nat} (ha0 : a0 ∈ L) (ta0 : τ a0 = (11, 0)) (a1 : Int32) (a2 : Int32) (a3 : Int32) (a4 : Int32) (a5 : Int32) : CtI l yX10_feed wsX10_feed { frames := 0, cells := 0, slots := 0, locals := 0 } D TB cy L τ E [.ref a0, .int a1, .int a2, .int a3, .int a4, .int a5] (inW [(11, 0), (72, 0)]) (fun r E' => (((fi E a0 20).toInt ≤ 100 ∧ r.toInt = (fi E a0 20).toInt + 20 ∧ (fi E' a0 20).toInt = (fi E a0 20).toInt + 20) ∨ (100 < (fi E a0 20).toInt ∧ r.toInt = -1 ∧ (fi E' a0 20).toInt = (fi E a0 20).toInt)) ∧ (∀ k : Nat, k ∉ ([4, 20] : List Nat) → fi E' a0 k = fi E a0 k)) := by
  intro sz
  refine sta (cc := cX10_feed) (maxL := 8) hI (by decide) rfl (Nat.le_of_ble_eq_true rfl) (fun p e s m args below meth c ls hsz Z S0 hl => ?_)
  have hx := Z.1.1
  have hb := Z.1.2.1
  have hts := Z.1.2.2.2.2
  have F0_ : Fr L τ (inW [(11, 0), (72, 0)]) E E := Fr.refl
  have hl : lv_has ls 8 [(0, .ref a0), (1, .int a1), (2, .int a2), (3, .int a3), (4, .int a4), (5, .int a5)] := hl
  generalize hQ : MQ below _ args s 0 0 _ = QQ
  have kz_a0_20 := fi_rng (k := 20) hI ha0 ta0 rfl rfl
  have J22 : ∀ (n : Nat) (x6_22 : Int32) (E_22 : Ec) (H_22 : Heap) (k_22 : List Loc) (l_22 : Array Slot), Now D TB cy (va_A (va_pl L E) sz) s L τ E_22 H_22 k_22 → Fr L τ (inW [(11, 0), (72, 0)]) E E_22 → (0 ≤ x6_22.toInt) → (x6_22.toInt ≤ 20) → (∀ k : Nat, k ∉ ([4, 20] : List Nat) → fi E_22 a0 k = fi E a0 k) → (0 ≤ (fi E_22 a0 20).toInt ∧ (fi E_22 a0 20).toInt ≤ 120 ∧ (fi E_22 a0 20).toInt = (fi E a0 20).toInt + x6_22.toInt ∧ (fi E a0 20).toInt ≤ 100) → (20 - x6_22.toInt).toNat < n → lv_has l_22 8 [(0, .ref a0), (1, .int a1), (2, .int a2), (3, .int a3), (4, .int a4), (5, .int a5), (6, .int x6_22)] → W p l e { frames := 0, cells := 0, slots := 0, locals := 0 } s m args below meth c H_22 k_22 0 0 QQ (F0 m 22 l_22 []) := by
    intro n
    induction n with
    | zero => intro x6_22 E_22 H_22 k_22 l_22 S_22 F_22 z1 z2 z3 z4 hm hl_22; exact absurd hm (Nat.not_lt_zero _)
    | succ n ih =>
      intro x6_22 E_22 H_22 k_22 l_22 S_22 F_22 z1 z2 z3 z4 hm hl_22
      have ih_22 := ih
      have J75 : ∀ (y0_75 : Int32) (E_75 : Ec) (H_75 : Heap) (k_75 : List Loc) (l_75 : Array Slot), Now D TB cy (va_A (va_pl L E) sz) s L τ E_75 H_75 k_75 → Fr L τ (inW [(11, 0), (72, 0)]) E E_75 → (0 ≤ x6_22.toInt) → (x6_22.toInt ≤ 19) → (∀ k : Nat, k ∉ ([4, 20] : List Nat) → fi E_75 a0 k = fi E a0 k) → (0 ≤ (fi E_75 a0 20).toInt ∧ (fi E_75 a0 20).toInt ≤ 120 ∧ (fi E_75 a0 20).toInt = (fi E a0 20).toInt + x6_22.toInt ∧ (fi E a0 20).toInt ≤ 100) → lv_has l_75 8 [(0, .ref a0), (1, .int a1), (2, .int a2), (3, .int a3), (4, .int a4), (5, .int a5), (6, .int x6_22)] → W p l e { frames := 0, cells := 0, slots := 0, locals := 0 } s m args below meth c H_75 k_75 0 0 QQ (F0 m 75 l_75 [.int y0_75]) := by
        intro y0_75 E_75 H_75 k_75 l_75 S_75 F_75 z5 z6 z7 z8 hl_75
        refine lv_istore (lv' := [(7, .int y0_75), (0, .ref a0), (1, .int a1), (2, .int a2), (3, .int a3), (4, .int a4), (5, .int a5), (6, .int x6_22)]) hx hb dX10_feed_75 hl_75 (by decide) rfl (fun l9 hl10 => ?_)
        refine lv_aload_n hx hb dX10_feed_77 rfl (lv_at hl10 1 rfl) ?_
        refine tr_getr Z.1 Z.2.2.2.1 S_75.1 S_75.2 ha0 ta0 rfl rfl (fun _ h => List.mem_cons_of_mem _ (List.mem_append_right _ h)) 18 (by decide) rfl (hts _ (List.mem_of_getElem? (i := 3) rfl)) dX10_feed_78 (fun q11 eq11 hq11 tq11 => ?_)
        have tq11 : τ q11 = (72, 0) := tq11
        refine lv_aload_n hx hb dX10_feed_81 rfl (lv_at hl10 1 rfl) ?_
        refine tr_geti Z.1 Z.2.2.2.1 S_75.1 S_75.2 ha0 ta0 rfl rfl (fun _ h => List.mem_cons_of_mem _ (List.mem_append_right _ h)) 20 (by decide) rfl (hts _ (List.mem_of_getElem? (i := 2) rfl)) dX10_feed_82 (fun v12 ev12 lv12 uv12 => ?_)
        have wv12 : v12 = (fi E_75 a0 20) := ev12.symm.trans rfl
        have xv12 : v12.toInt = (fi E_75 a0 20).toInt := by rw [wv12]
        refine lv_iload hx hb dX10_feed_85 (lv_at hl10 0 rfl) ?_
        obtain ⟨v13, ev13, tv13⟩ : ∃ v : Int32, (Int8.ofInt (24)).toInt32 = v ∧ v.toInt = 24 := ⟨_, rfl, by decide +kernel⟩
        refine lv_bipush hx hb dX10_feed_87 ev13 ?_
        obtain ⟨v14, ev14, tv14⟩ : ∃ v : Int32, (Int8.ofInt (8)).toInt32 = v ∧ v.toInt = 8 := ⟨_, rfl, by decide +kernel⟩
        refine lv_bipush hx hb dX10_feed_89 ev14 ?_
        refine lv_iload hx hb dX10_feed_91 (lv_at hl10 7 rfl) ?_
        obtain ⟨v15, ev15, tv15⟩ : ∃ v : Int32, Int32.ofInt (4) = v ∧ v.toInt = 4 := ⟨_, rfl, by decide +kernel⟩
        refine lv_iconst hx hb dX10_feed_93 ev15 ?_
        refine lv_irem hx hb dX10_feed_94 (fun q => by have := nu_eq0 q; omega) ?_
        refine lv_topi (fun v16 ev16 => ?_)
        have tv16 := nu_remc (4) ev16 (by omega) (by omega) (by omega)
        refine lv_imul hx hb dX10_feed_95 ?_
        refine lv_topi (fun v17 ev17 => ?_)
        have tv17 := nu_mulc' (8) ev17 (by omega) (by omega) (by omega)
        refine lv_isub hx hb dX10_feed_96 ?_
        refine lv_topi (fun v18 ev18 => ?_)
        have tv18 := nu_sub ev18 (by omega) (by omega)
        refine lv_ishr hx hb dX10_feed_97 ?_
        refine lv_topi (fun v19 ev19 => ?_)
        obtain ⟨v20, ev20⟩ : ∃ y : Int32, v19.toInt8.toInt32 = y := ⟨_, rfl⟩
        refine lv_i2b hx hb dX10_feed_98 ev20 ?_
        refine tr_bast Z.1 Z.2.2.2.1 S_75.1 S_75.2 hq11 tq11 rfl (by omega) (by omega) dX10_feed_99 (fun E21 H22 k23 W21 I21 P21 => ?_)
        have S21 : Now D TB cy (va_A (va_pl L E) sz) s L τ E21 H22 k23 := ⟨W21, I21⟩
        have F21 : Fr L τ (inW [(11, 0), (72, 0)]) E E21 := Fr.set F_75 P21 tq11 rfl
        refine lv_aload_n hx hb dX10_feed_100 rfl (lv_at hl10 1 rfl) ?_
        refine lv_dup hx hb dX10_feed_101 rfl ?_
        refine tr_geti Z.1 Z.2.2.2.1 S21.1 S21.2 ha0 ta0 rfl rfl (fun _ h => List.mem_cons_of_mem _ (List.mem_append_right _ h)) 20 (by decide) rfl (hts _ (List.mem_of_getElem? (i := 2) rfl)) dX10_feed_102 (fun v24 ev24 lv24 uv24 => ?_)
        have wv24 : v24 = v12 := ev24.symm.trans ((fi_set P21 (ne_ro ta0 tq11 (by decide))).trans ev12)
        have xv24 : v24.toInt = v12.toInt := by rw [wv24]
        obtain ⟨v25, ev25, tv25⟩ : ∃ v : Int32, Int32.ofInt (1) = v ∧ v.toInt = 1 := ⟨_, rfl, by decide +kernel⟩
        refine lv_iconst hx hb dX10_feed_105 ev25 ?_
        refine lv_iadd hx hb dX10_feed_106 ?_
        refine lv_topi (fun v26 ev26 => ?_)
        have tv26 := nu_add ev26 (by omega) (by omega)
        refine tr_puti Z.1 Z.2.2.2.1 S21.1 S21.2 ha0 ta0 rfl rfl (fun _ h => List.mem_cons_of_mem _ (List.mem_append_right _ h)) tyX10_ok nmX10 20 (by decide) rfl rfl rfl (hts _ (List.mem_of_getElem? (i := 2) rfl)) dX10_feed_107 (by omega) (by omega) (fun E27 H28 k29 W27 I27 P27 => ?_)
        have S27 : Now D TB cy (va_A (va_pl L E) sz) s L τ E27 H28 k29 := ⟨W27, I27⟩
        have F27 : Fr L τ (inW [(11, 0), (72, 0)]) E E27 := Fr.put F21 P27 ta0 rfl
        obtain ⟨v30, ev30⟩ : ∃ y : Int32, x6_22 + Int32.ofInt (1) = y := ⟨_, rfl⟩
        have tv30 : v30.toInt = x6_22.toInt + (1) := by rw [← ev30]; exact (fb_addI (by rw [show (Int32.ofInt (1)).toInt = 1 from by decide +kernel]; omega) (by rw [show (Int32.ofInt (1)).toInt = 1 from by decide +kernel]; omega)).trans (by rw [show (Int32.ofInt (1)).toInt = 1 from by decide +kernel])
        refine lv_iinc (v := v30) (lv' := [(6, .int v30), (7, .int y0_75), (0, .ref a0), (1, .int a1), (2, .int a2), (3, .int a3), (4, .int a4), (5, .int a5)]) hx hb dX10_feed_110 hl10 (k := 7) rfl ev30 (by decide) rfl (fun l31 hl32 => ?_)
        refine lv_goto (tgt := 22) hx hb dX10_feed_113 (by decide) ?_
        exact ih_22 v30 E27 H28 k29 l31 S27 F27 (by have := fb_rng y0_75; have := fb_rng a1; have := fb_rng a2; have := fb_rng a3; have := fb_rng a4; have := fb_rng a5; omega) (by have := fb_rng y0_75; have := fb_rng a1; have := fb_rng a2; have := fb_rng a3; have := fb_rng a4; have := fb_rng a5; omega) (fun k hk => ((fi_put P27 (Or.inr (fw_ne (by decide) hk))).trans ((fi_set P21 (ne_ro ta0 tq11 (by decide))).trans (z7 k hk)))) (by rw [(fi_at P27)]; have := fb_rng y0_75; have := fb_rng a1; have := fb_rng a2; have := fb_rng a3; have := fb_rng a4; have := fb_rng a5; omega) (by omega) (lv_sub hl32 [2, 3, 4, 5, 6, 7, 0] rfl)
      refine lv_iload hx hb dX10_feed_22 (lv_at hl_22 6 rfl) ?_
      obtain ⟨v33, ev33, tv33⟩ : ∃ v : Int32, (Int8.ofInt (20)).toInt32 = v ∧ v.toInt = 20 := ⟨_, rfl, by decide +kernel⟩
      refine lv_bipush hx hb dX10_feed_24 ev33 ?_
      refine lv_icmp_ge (tgt := 116) hx hb dX10_feed_26 (by decide) (fun c34 => ?_) (fun c34 => ?_)
      · skip
        have tc34 := nu_le c34
        refine lv_aload_n hx hb dX10_feed_116 rfl (lv_at hl_22 0 rfl) ?_
        refine tr_geti Z.1 Z.2.2.2.1 S_22.1 S_22.2 ha0 ta0 rfl rfl (fun _ h => List.mem_cons_of_mem _ (List.mem_append_right _ h)) 20 (by decide) rfl (hts _ (List.mem_of_getElem? (i := 2) rfl)) dX10_feed_117 (fun v35 ev35 lv35 uv35 => ?_)
        have wv35 : v35 = (fi E_22 a0 20) := ev35.symm.trans rfl
        have xv35 : v35.toInt = (fi E_22 a0 20).toInt := by rw [wv35]
        rw [← hQ]
        exact en_i Z S_22 F_22 ⟨(by rw [ev35]; omega), (fun k hk => (z3 k hk))⟩ dX10_feed_120
      · skip
        have tc34 := nu_nle c34
        refine lv_iload hx hb dX10_feed_29 (lv_at hl_22 6 rfl) ?_
        obtain ⟨v36, ev36, tv36⟩ : ∃ v : Int32, Int32.ofInt (4) = v ∧ v.toInt = 4 := ⟨_, rfl, by decide +kernel⟩
        refine lv_iconst hx hb dX10_feed_31 ev36 ?_
        refine lv_icmp_ge (tgt := 39) hx hb dX10_feed_32 (by decide) (fun c37 => ?_) (fun c37 => ?_)
        · skip
          have tc37 := nu_le c37
          refine lv_iload hx hb dX10_feed_39 (lv_at hl_22 6 rfl) ?_
          obtain ⟨v38, ev38, tv38⟩ : ∃ v : Int32, (Int8.ofInt (8)).toInt32 = v ∧ v.toInt = 8 := ⟨_, rfl, by decide +kernel⟩
          refine lv_bipush hx hb dX10_feed_41 ev38 ?_
          refine lv_icmp_ge (tgt := 50) hx hb dX10_feed_43 (by decide) (fun c39 => ?_) (fun c39 => ?_)
          · skip
            have tc39 := nu_le c39
            refine lv_iload hx hb dX10_feed_50 (lv_at hl_22 6 rfl) ?_
            obtain ⟨v40, ev40, tv40⟩ : ∃ v : Int32, (Int8.ofInt (12)).toInt32 = v ∧ v.toInt = 12 := ⟨_, rfl, by decide +kernel⟩
            refine lv_bipush hx hb dX10_feed_52 ev40 ?_
            refine lv_icmp_ge (tgt := 61) hx hb dX10_feed_54 (by decide) (fun c41 => ?_) (fun c41 => ?_)
            · skip
              have tc41 := nu_le c41
              refine lv_iload hx hb dX10_feed_61 (lv_at hl_22 6 rfl) ?_
              obtain ⟨v42, ev42, tv42⟩ : ∃ v : Int32, (Int8.ofInt (16)).toInt32 = v ∧ v.toInt = 16 := ⟨_, rfl, by decide +kernel⟩
              refine lv_bipush hx hb dX10_feed_63 ev42 ?_
              refine lv_icmp_ge (tgt := 73) hx hb dX10_feed_65 (by decide) (fun c43 => ?_) (fun c43 => ?_)
              · skip
                have tc43 := nu_le c43
                refine lv_iload hx hb dX10_feed_73 (lv_at hl_22 5 rfl) ?_
                exact J75 a5 E_22 H_22 k_22 l_22 S_22 F_22 (by have := fb_rng a1; have := fb_rng a2; have := fb_rng a3; have := fb_rng a4; have := fb_rng a5; omega) (by have := fb_rng a1; have := fb_rng a2; have := fb_rng a3; have := fb_rng a4; have := fb_rng a5; omega) (fun k hk => (z3 k hk)) (by have := fb_rng a1; have := fb_rng a2; have := fb_rng a3; have := fb_rng a4; have := fb_rng a5; omega) (lv_sub hl_22 [0, 1, 2, 3, 4, 5, 6] rfl)
              · skip
                have tc43 := nu_nle c43
                refine lv_iload hx hb dX10_feed_68 (lv_at hl_22 4 rfl) ?_
                refine lv_goto (tgt := 75) hx hb dX10_feed_70 (by decide) ?_
                exact J75 a4 E_22 H_22 k_22 l_22 S_22 F_22 (by have := fb_rng a1; have := fb_rng a2; have := fb_rng a3; have := fb_rng a4; have := fb_rng a5; omega) (by have := fb_rng a1; have := fb_rng a2; have := fb_rng a3; have := fb_rng a4; have := fb_rng a5; omega) (fun k hk => (z3 k hk)) (by have := fb_rng a1; have := fb_rng a2; have := fb_rng a3; have := fb_rng a4; have := fb_rng a5; omega) (lv_sub hl_22 [0, 1, 2, 3, 4, 5, 6] rfl)
            · skip
              have tc41 := nu_nle c41
              refine lv_iload_n hx hb dX10_feed_57 rfl (lv_at hl_22 3 rfl) ?_
              refine lv_goto (tgt := 75) hx hb dX10_feed_58 (by decide) ?_
              exact J75 a3 E_22 H_22 k_22 l_22 S_22 F_22 (by have := fb_rng a1; have := fb_rng a2; have := fb_rng a3; have := fb_rng a4; have := fb_rng a5; omega) (by have := fb_rng a1; have := fb_rng a2; have := fb_rng a3; have := fb_rng a4; have := fb_rng a5; omega) (fun k hk => (z3 k hk)) (by have := fb_rng a1; have := fb_rng a2; have := fb_rng a3; have := fb_rng a4; have := fb_rng a5; omega) (lv_sub hl_22 [0, 1, 2, 3, 4, 5, 6] rfl)
          · skip
            have tc39 := nu_nle c39
            refine lv_iload_n hx hb dX10_feed_46 rfl (lv_at hl_22 2 rfl) ?_
            refine lv_goto (tgt := 75) hx hb dX10_feed_47 (by decide) ?_
            exact J75 a2 E_22 H_22 k_22 l_22 S_22 F_22 (by have := fb_rng a1; have := fb_rng a2; have := fb_rng a3; have := fb_rng a4; have := fb_rng a5; omega) (by have := fb_rng a1; have := fb_rng a2; have := fb_rng a3; have := fb_rng a4; have := fb_rng a5; omega) (fun k hk => (z3 k hk)) (by have := fb_rng a1; have := fb_rng a2; have := fb_rng a3; have := fb_rng a4; have := fb_rng a5; omega) (lv_sub hl_22 [0, 1, 2, 3, 4, 5, 6] rfl)
        · skip
          have tc37 := nu_nle c37
          refine lv_iload_n hx hb dX10_feed_35 rfl (lv_at hl_22 1 rfl) ?_
          refine lv_goto (tgt := 75) hx hb dX10_feed_36 (by decide) ?_
          exact J75 a1 E_22 H_22 k_22 l_22 S_22 F_22 (by have := fb_rng a1; have := fb_rng a2; have := fb_rng a3; have := fb_rng a4; have := fb_rng a5; omega) (by have := fb_rng a1; have := fb_rng a2; have := fb_rng a3; have := fb_rng a4; have := fb_rng a5; omega) (fun k hk => (z3 k hk)) (by have := fb_rng a1; have := fb_rng a2; have := fb_rng a3; have := fb_rng a4; have := fb_rng a5; omega) (lv_sub hl_22 [0, 1, 2, 3, 4, 5, 6] rfl)
  refine lv_aload_n hx hb dX10_feed_0 rfl (lv_at hl 0 rfl) ?_
  obtain ⟨v44, ev44, tv44⟩ : ∃ v : Int32, Int32.ofInt (0) = v ∧ v.toInt = 0 := ⟨_, rfl, by decide +kernel⟩
  refine lv_iconst hx hb dX10_feed_1 ev44 ?_
  refine tr_puti Z.1 Z.2.2.2.1 S0.1 S0.2 ha0 ta0 rfl rfl (fun _ h => List.mem_cons_of_mem _ (List.mem_append_right _ h)) tyX10_ok nmX10 4 (by decide) rfl rfl rfl (hts _ (List.mem_of_getElem? (i := 1) rfl)) dX10_feed_2 (by omega) (by omega) (fun E45 H46 k47 W45 I45 P45 => ?_)
  have S45 : Now D TB cy (va_A (va_pl L E) sz) s L τ E45 H46 k47 := ⟨W45, I45⟩
  have F45 : Fr L τ (inW [(11, 0), (72, 0)]) E E45 := Fr.put F0_ P45 ta0 rfl
  refine lv_aload_n hx hb dX10_feed_5 rfl (lv_at hl 0 rfl) ?_
  refine tr_geti Z.1 Z.2.2.2.1 S45.1 S45.2 ha0 ta0 rfl rfl (fun _ h => List.mem_cons_of_mem _ (List.mem_append_right _ h)) 20 (by decide) rfl (hts _ (List.mem_of_getElem? (i := 2) rfl)) dX10_feed_6 (fun v48 ev48 lv48 uv48 => ?_)
  have wv48 : v48 = (fi E a0 20) := ev48.symm.trans ((fi_put P45 (Or.inr (by decide))).trans rfl)
  have xv48 : v48.toInt = (fi E a0 20).toInt := by rw [wv48]
  obtain ⟨v49, ev49, tv49⟩ : ∃ v : Int32, (Int8.ofInt (20)).toInt32 = v ∧ v.toInt = 20 := ⟨_, rfl, by decide +kernel⟩
  refine lv_bipush hx hb dX10_feed_9 ev49 ?_
  refine lv_iadd hx hb dX10_feed_11 ?_
  refine lv_topi (fun v50 ev50 => ?_)
  have tv50 := nu_add ev50 (by omega) (by omega)
  obtain ⟨v51, ev51, tv51⟩ : ∃ v : Int32, (Int8.ofInt (120)).toInt32 = v ∧ v.toInt = 120 := ⟨_, rfl, by decide +kernel⟩
  refine lv_bipush hx hb dX10_feed_12 ev51 ?_
  refine lv_icmp_le (tgt := 19) hx hb dX10_feed_14 (by decide) (fun c52 => ?_) (fun c52 => ?_)
  · skip
    have tc52 := nu_le c52
    obtain ⟨v53, ev53, tv53⟩ : ∃ v : Int32, Int32.ofInt (0) = v ∧ v.toInt = 0 := ⟨_, rfl, by decide +kernel⟩
    refine lv_iconst hx hb dX10_feed_19 ev53 ?_
    refine lv_istore (lv' := [(6, .int v53), (0, .ref a0), (1, .int a1), (2, .int a2), (3, .int a3), (4, .int a4), (5, .int a5)]) hx hb dX10_feed_20 hl (by decide) rfl (fun l54 hl55 => ?_)
    exact J22 _ v53 E45 H46 k47 l54 S45 F45 (by have := fb_rng a1; have := fb_rng a2; have := fb_rng a3; have := fb_rng a4; have := fb_rng a5; omega) (by have := fb_rng a1; have := fb_rng a2; have := fb_rng a3; have := fb_rng a4; have := fb_rng a5; omega) (fun k hk => ((fi_put P45 (Or.inr (fw_ne (by decide) hk))).trans ((fun k hk => rfl) k hk))) (by rw [ev48]; have := fb_rng a1; have := fb_rng a2; have := fb_rng a3; have := fb_rng a4; have := fb_rng a5; omega) (Nat.lt_succ_self _) (lv_sub hl55 [1, 2, 3, 4, 5, 6, 0] rfl)
  · skip
    have tc52 := nu_nle c52
    obtain ⟨v56, ev56, tv56⟩ : ∃ v : Int32, Int32.ofInt (-1) = v ∧ v.toInt = -1 := ⟨_, rfl, by decide +kernel⟩
    refine lv_iconst hx hb dX10_feed_17 ev56 ?_
    rw [← hQ]
    exact en_i Z S45 F45 ⟨(by rw [ev48]; omega), (fun k hk => ((fi_put P45 (Or.inr (fw_ne (by decide) hk))).trans ((fun k hk => rfl) k hk)))⟩ dX10_feed_18

set_option maxRecDepth 20000 in
theorem ggX10_wordAt_X10_isSmall : GoodIn wsX10_wordAt wsX10_isSmall := goodIn_r _ [10] (by decide +kernel) (by decide +kernel)
set_option maxRecDepth 20000 in
theorem gX10_wordAt_X10_isSmall : GoodIn wsX10_wordAt (wsV RX10 163 RX10 yX10_isSmall wsX10_isSmall) := goodIn_app (goodIn_of _ (by decide +kernel)) ggX10_wordAt_X10_isSmall
theorem dX10_wordAt_0 : decode cX10_wordAt 0 = .ok (.lconst 0, 1) := by decide +kernel
theorem dX10_wordAt_1 : decode cX10_wordAt 1 = .ok (.lstore_n 1, 1) := by decide +kernel
theorem dX10_wordAt_2 : decode cX10_wordAt 2 = .ok (.aload_n 0, 1) := by decide +kernel
theorem dX10_wordAt_3 : decode cX10_wordAt 3 = .ok (.getfield 151, 3) := by decide +kernel
theorem dX10_wordAt_6 : decode cX10_wordAt 6 = .ok (.istore_n 3, 1) := by decide +kernel
theorem dX10_wordAt_7 : decode cX10_wordAt 7 = .ok (.iload_n 3, 1) := by decide +kernel
theorem dX10_wordAt_8 : decode cX10_wordAt 8 = .ok (.aload_n 0, 1) := by decide +kernel
theorem dX10_wordAt_9 : decode cX10_wordAt 9 = .ok (.getfield 154, 3) := by decide +kernel
theorem dX10_wordAt_12 : decode cX10_wordAt 12 = .ok (.if_icmp .ge 68, 3) := by decide +kernel
theorem dX10_wordAt_15 : decode cX10_wordAt 15 = .ok (.aload_n 0, 1) := by decide +kernel
theorem dX10_wordAt_16 : decode cX10_wordAt 16 = .ok (.aload_n 0, 1) := by decide +kernel
theorem dX10_wordAt_17 : decode cX10_wordAt 17 = .ok (.getfield 54, 3) := by decide +kernel
theorem dX10_wordAt_20 : decode cX10_wordAt 20 = .ok (.iload_n 3, 1) := by decide +kernel
theorem dX10_wordAt_21 : decode cX10_wordAt 21 = .ok (.baload, 1) := by decide +kernel
theorem dX10_wordAt_22 : decode cX10_wordAt 22 = .ok (.invokevirtual 163, 3) := by decide +kernel
theorem dX10_wordAt_25 : decode cX10_wordAt 25 = .ok (.ifCond .eq 55, 3) := by decide +kernel
theorem dX10_wordAt_28 : decode cX10_wordAt 28 = .ok (.iload_n 3, 1) := by decide +kernel
theorem dX10_wordAt_29 : decode cX10_wordAt 29 = .ok (.aload_n 0, 1) := by decide +kernel
theorem dX10_wordAt_30 : decode cX10_wordAt 30 = .ok (.getfield 151, 3) := by decide +kernel
theorem dX10_wordAt_33 : decode cX10_wordAt 33 = .ok (.isub, 1) := by decide +kernel
theorem dX10_wordAt_34 : decode cX10_wordAt 34 = .ok (.bipush 7, 2) := by decide +kernel
theorem dX10_wordAt_36 : decode cX10_wordAt 36 = .ok (.if_icmp .ge 23, 3) := by decide +kernel
theorem dX10_wordAt_39 : decode cX10_wordAt 39 = .ok (.lload_n 1, 1) := by decide +kernel
theorem dX10_wordAt_40 : decode cX10_wordAt 40 = .ok (.ldc2_w 166, 3) := by decide +kernel
theorem dX10_wordAt_43 : decode cX10_wordAt 43 = .ok (.lmul, 1) := by decide +kernel
theorem dX10_wordAt_44 : decode cX10_wordAt 44 = .ok (.aload_n 0, 1) := by decide +kernel
theorem dX10_wordAt_45 : decode cX10_wordAt 45 = .ok (.getfield 54, 3) := by decide +kernel
theorem dX10_wordAt_48 : decode cX10_wordAt 48 = .ok (.iload_n 3, 1) := by decide +kernel
theorem dX10_wordAt_49 : decode cX10_wordAt 49 = .ok (.baload, 1) := by decide +kernel
theorem dX10_wordAt_50 : decode cX10_wordAt 50 = .ok (.i2l, 1) := by decide +kernel
theorem dX10_wordAt_51 : decode cX10_wordAt 51 = .ok (.ladd, 1) := by decide +kernel
theorem dX10_wordAt_52 : decode cX10_wordAt 52 = .ok (.ldc2_w 168, 3) := by decide +kernel
theorem dX10_wordAt_55 : decode cX10_wordAt 55 = .ok (.lsub, 1) := by decide +kernel
theorem dX10_wordAt_56 : decode cX10_wordAt 56 = .ok (.goto 4, 3) := by decide +kernel
theorem dX10_wordAt_59 : decode cX10_wordAt 59 = .ok (.lconst 0, 1) := by decide +kernel
theorem dX10_wordAt_60 : decode cX10_wordAt 60 = .ok (.lstore_n 1, 1) := by decide +kernel
theorem dX10_wordAt_61 : decode cX10_wordAt 61 = .ok (.iload_n 3, 1) := by decide +kernel
theorem dX10_wordAt_62 : decode cX10_wordAt 62 = .ok (.aload_n 0, 1) := by decide +kernel
theorem dX10_wordAt_63 : decode cX10_wordAt 63 = .ok (.getfield 151, 3) := by decide +kernel
theorem dX10_wordAt_66 : decode cX10_wordAt 66 = .ok (.isub, 1) := by decide +kernel
theorem dX10_wordAt_67 : decode cX10_wordAt 67 = .ok (.bipush 7, 2) := by decide +kernel
theorem dX10_wordAt_69 : decode cX10_wordAt 69 = .ok (.if_icmp .lt 5, 3) := by decide +kernel
theorem dX10_wordAt_72 : decode cX10_wordAt 72 = .ok (.lconst 0, 1) := by decide +kernel
theorem dX10_wordAt_73 : decode cX10_wordAt 73 = .ok (.lreturn, 1) := by decide +kernel
theorem dX10_wordAt_74 : decode cX10_wordAt 74 = .ok (.iinc 3 1, 3) := by decide +kernel
theorem dX10_wordAt_77 : decode cX10_wordAt 77 = .ok (.goto (-70), 3) := by decide +kernel
theorem dX10_wordAt_80 : decode cX10_wordAt 80 = .ok (.lload_n 1, 1) := by decide +kernel
theorem dX10_wordAt_81 : decode cX10_wordAt 81 = .ok (.lreturn, 1) := by decide +kernel
set_option maxHeartbeats 4000000 in
set_option maxRecDepth 100000 in
theorem k_X10_wordAt (l : Launch) (D : va_G) (cy : Nat → ClassId) {L : List Nat} {τ : Nat → Ro} {E : Ec} (hI : Inv TB cy L τ E) {a0 : Nat} (ha0 : a0 ∈ L) (ta0 : τ a0 = (11, 0)) : CtL l yX10_wordAt wsX10_wordAt { frames := 1, cells := 0, slots := 0, locals := 21 } D TB cy L τ E [.ref a0] (inW []) (fun r E' => E' = E) := by
  intro sz
  refine sta (cc := cX10_wordAt) (maxL := 4) hI (by decide) rfl (Nat.le_of_ble_eq_true rfl) (fun p e s m args below meth c ls hsz Z S0 hl => ?_)
  have hx := Z.1.1
  have hb := Z.1.2.1
  have hts := Z.1.2.2.2.2
  have F0_ : Fr L τ (inW []) E E := Fr.refl
  have hl : lv_has ls 4 [(0, .ref a0)] := hl
  generalize hQ : MQ below _ args s 0 0 _ = QQ
  have J7 : ∀ (n : Nat) (x1_7 : Int64) (x3_7 : Int32) (H_7 : Heap) (k_7 : List Loc) (l_7 : Array Slot), Now D TB cy (va_A (va_pl L E) sz) s L τ E H_7 k_7 → (0 ≤ x3_7.toInt) → (x3_7.toInt ≤ 120) → (120 - x3_7.toInt).toNat < n → lv_has l_7 4 [(0, .ref a0), (1, .long x1_7), (3, .int x3_7)] → W p l e { frames := 1, cells := 0, slots := 0, locals := 21 } s m args below meth c H_7 k_7 0 0 QQ (F0 m 7 l_7 []) := by
    intro n
    induction n with
    | zero => intro x1_7 x3_7 H_7 k_7 l_7 S_7 z1 z2 hm hl_7; exact absurd hm (Nat.not_lt_zero _)
    | succ n ih =>
      intro x1_7 x3_7 H_7 k_7 l_7 S_7 z1 z2 hm hl_7
      have ih_7 := ih
      have J60 : ∀ (y0_60 : Int64) (H_60 : Heap) (k_60 : List Loc) (l_60 : Array Slot), Now D TB cy (va_A (va_pl L E) sz) s L τ E H_60 k_60 → (0 ≤ x3_7.toInt) → (x3_7.toInt ≤ 119) → lv_has l_60 4 [(0, .ref a0), (3, .int x3_7)] → W p l e { frames := 1, cells := 0, slots := 0, locals := 21 } s m args below meth c H_60 k_60 0 0 QQ (F0 m 60 l_60 [.long y0_60]) := by
        intro y0_60 H_60 k_60 l_60 S_60 z3 z4 hl_60
        refine lv_lstore_n (lv' := [(1, .long y0_60), (0, .ref a0), (3, .int x3_7)]) hx hb dX10_wordAt_60 rfl hl_60 (by decide) rfl (fun l5 hl6 => ?_)
        refine lv_iload_n hx hb dX10_wordAt_61 rfl (lv_at hl6 2 rfl) ?_
        refine lv_aload_n hx hb dX10_wordAt_62 rfl (lv_at hl6 1 rfl) ?_
        refine tr_geti Z.1 Z.2.2.2.1 S_60.1 S_60.2 ha0 ta0 rfl rfl (fun _ h => List.mem_cons_of_mem _ (List.mem_append_right _ h)) 22 (by decide) rfl (hts _ (List.mem_of_getElem? (i := 1) rfl)) dX10_wordAt_63 (fun v7 ev7 lv7 uv7 => ?_)
        refine lv_isub hx hb dX10_wordAt_66 ?_
        refine lv_topi (fun v8 ev8 => ?_)
        have tv8 := nu_sub ev8 (by omega) (by omega)
        obtain ⟨v9, ev9, tv9⟩ : ∃ v : Int32, (Int8.ofInt (7)).toInt32 = v ∧ v.toInt = 7 := ⟨_, rfl, by decide +kernel⟩
        refine lv_bipush hx hb dX10_wordAt_67 ev9 ?_
        refine lv_icmp_lt (tgt := 74) hx hb dX10_wordAt_69 (by decide) (fun c10 => ?_) (fun c10 => ?_)
        · skip
          have tc10 := nu_lt c10
          obtain ⟨v11, ev11⟩ : ∃ y : Int32, x3_7 + Int32.ofInt (1) = y := ⟨_, rfl⟩
          have tv11 : v11.toInt = x3_7.toInt + (1) := by rw [← ev11]; exact (fb_addI (by rw [show (Int32.ofInt (1)).toInt = 1 from by decide +kernel]; omega) (by rw [show (Int32.ofInt (1)).toInt = 1 from by decide +kernel]; omega)).trans (by rw [show (Int32.ofInt (1)).toInt = 1 from by decide +kernel])
          refine lv_iinc (v := v11) (lv' := [(3, .int v11), (1, .long y0_60), (0, .ref a0)]) hx hb dX10_wordAt_74 hl6 (k := 2) rfl ev11 (by decide) rfl (fun l12 hl13 => ?_)
          refine lv_goto (tgt := 7) hx hb dX10_wordAt_77 (by decide) ?_
          exact ih_7 y0_60 v11 H_60 k_60 l12 S_60 (by omega) (by omega) (by omega) (lv_sub hl13 [2, 1, 0] rfl)
        · skip
          have tc10 := nu_nlt c10
          refine lv_lconst (v := 0) hx hb dX10_wordAt_72 (by decide +kernel) ?_
          refine lv_topl (fun w14 ew14 => ?_)
          have tw14 : w14.toInt = 0 := by rw [ew14]; decide +kernel
          rw [← hQ]
          exact en_l Z S_60 F0_ rfl dX10_wordAt_73
      refine lv_iload_n hx hb dX10_wordAt_7 rfl (lv_at hl_7 2 rfl) ?_
      refine lv_aload_n hx hb dX10_wordAt_8 rfl (lv_at hl_7 0 rfl) ?_
      refine tr_geti Z.1 Z.2.2.2.1 S_7.1 S_7.2 ha0 ta0 rfl rfl (fun _ h => List.mem_cons_of_mem _ (List.mem_append_right _ h)) 21 (by decide) rfl (hts _ (List.mem_of_getElem? (i := 2) rfl)) dX10_wordAt_9 (fun v15 ev15 lv15 uv15 => ?_)
      refine lv_icmp_ge (tgt := 80) hx hb dX10_wordAt_12 (by decide) (fun c16 => ?_) (fun c16 => ?_)
      · skip
        have tc16 := nu_le c16
        refine lv_lload_n hx hb dX10_wordAt_80 rfl (lv_at hl_7 1 rfl) ?_
        rw [← hQ]
        exact en_l Z S_7 F0_ rfl dX10_wordAt_81
      · skip
        have tc16 := nu_nle c16
        refine lv_aload_n hx hb dX10_wordAt_15 rfl (lv_at hl_7 0 rfl) ?_
        refine lv_aload_n hx hb dX10_wordAt_16 rfl (lv_at hl_7 0 rfl) ?_
        refine tr_getr Z.1 Z.2.2.2.1 S_7.1 S_7.2 ha0 ta0 rfl rfl (fun _ h => List.mem_cons_of_mem _ (List.mem_append_right _ h)) 19 (by decide) rfl (hts _ (List.mem_of_getElem? (i := 3) rfl)) dX10_wordAt_17 (fun q17 eq17 hq17 tq17 => ?_)
        have tq17 : τ q17 = (73, 0) := tq17
        refine lv_iload_n hx hb dX10_wordAt_20 rfl (lv_at hl_7 2 rfl) ?_
        refine tr_bald Z.1 Z.2.2.2.1 S_7.1 S_7.2 hq17 tq17 rfl (by omega) (by omega) dX10_wordAt_21 (fun v18 ev18 lv18 uv18 => ?_)
        refine tc_vi Z.1 Z.2.2.2.1 Z.2.2.2.2.1 Z.2.2.2.2.2 S_7.1 S_7.2 ha0 ta0 rfl rfl (k_X10_isSmall l D cy S_7.2 ha0 ta0 v18) (cwV 1 hts gX10_wordAt_X10_isSmall rfl rfl rfl (by decide +kernel) ⟨Nat.le_of_ble_eq_true rfl, Nat.le_of_ble_eq_true rfl⟩) rfl hl_7.1 rfl (Nat.le_of_ble_eq_true rfl) dX10_wordAt_22 ⟨Nat.zero_le _, Nat.zero_le _⟩ (fun v22 E19 H20 k21 W19 I19 G19 p19 => ?_)
        obtain ⟨q19, p19_0, p19_1, p19_2⟩ := p19
        have q19 := q19.symm
        subst q19
        have S19 : Now D TB cy (va_A (va_pl L E) sz) s L τ E H20 k21 := ⟨W19, I19⟩
        refine lv_if_eq (tgt := 80) hx hb dX10_wordAt_25 (by decide) (fun c23 => ?_) (fun c23 => ?_)
        · skip
          have tc23 := nu_eq c23
          have uc23 : (0 : Int32).toInt = 0 := rfl
          refine lv_lload_n hx hb dX10_wordAt_80 rfl (lv_at hl_7 1 rfl) ?_
          rw [← hQ]
          exact en_l Z S19 F0_ rfl dX10_wordAt_81
        · skip
          have tc23 := nu_ne c23
          have uc23 : (0 : Int32).toInt = 0 := rfl
          refine lv_iload_n hx hb dX10_wordAt_28 rfl (lv_at hl_7 2 rfl) ?_
          refine lv_aload_n hx hb dX10_wordAt_29 rfl (lv_at hl_7 0 rfl) ?_
          refine tr_geti Z.1 Z.2.2.2.1 S19.1 S19.2 ha0 ta0 rfl rfl (fun _ h => List.mem_cons_of_mem _ (List.mem_append_right _ h)) 22 (by decide) rfl (hts _ (List.mem_of_getElem? (i := 1) rfl)) dX10_wordAt_30 (fun v24 ev24 lv24 uv24 => ?_)
          refine lv_isub hx hb dX10_wordAt_33 ?_
          refine lv_topi (fun v25 ev25 => ?_)
          have tv25 := nu_sub ev25 (by omega) (by omega)
          obtain ⟨v26, ev26, tv26⟩ : ∃ v : Int32, (Int8.ofInt (7)).toInt32 = v ∧ v.toInt = 7 := ⟨_, rfl, by decide +kernel⟩
          refine lv_bipush hx hb dX10_wordAt_34 ev26 ?_
          refine lv_icmp_ge (tgt := 59) hx hb dX10_wordAt_36 (by decide) (fun c27 => ?_) (fun c27 => ?_)
          · skip
            have tc27 := nu_le c27
            refine lv_lconst (v := 0) hx hb dX10_wordAt_59 (by decide +kernel) ?_
            refine lv_topl (fun w28 ew28 => ?_)
            have tw28 : w28.toInt = 0 := by rw [ew28]; decide +kernel
            exact J60 w28 H20 k21 l_7 S19 (by omega) (by omega) (lv_sub hl_7 [0, 2] rfl)
          · skip
            have tc27 := nu_nle c27
            refine lv_lload_n hx hb dX10_wordAt_39 rfl (lv_at hl_7 1 rfl) ?_
            refine lv_ldc2 (v := (32)) hx hb Z.1.2.2.2.1 (hts _ (List.mem_of_getElem? (i := 4) rfl)) dX10_wordAt_40 ?_
            refine lv_topl (fun w29 ew29 => ?_)
            have tw29 : w29.toInt = 32 := by rw [ew29]; decide +kernel
            refine lv_lmul hx hb dX10_wordAt_43 ?_
            refine lv_topl (fun w30 ew30 => ?_)
            refine lv_aload_n hx hb dX10_wordAt_44 rfl (lv_at hl_7 0 rfl) ?_
            refine tr_getr Z.1 Z.2.2.2.1 S19.1 S19.2 ha0 ta0 rfl rfl (fun _ h => List.mem_cons_of_mem _ (List.mem_append_right _ h)) 19 (by decide) rfl (hts _ (List.mem_of_getElem? (i := 3) rfl)) dX10_wordAt_45 (fun q31 eq31 hq31 tq31 => ?_)
            have tq31 : τ q31 = (73, 0) := tq31
            have uq31 : q17 = q31 := S19.2.2.2.2 _ hq17 _ hq31 (tq17.trans tq31.symm) (by rw [tq17]; rfl)
            subst uq31
            refine lv_iload_n hx hb dX10_wordAt_48 rfl (lv_at hl_7 2 rfl) ?_
            refine tr_bald Z.1 Z.2.2.2.1 S19.1 S19.2 hq17 tq17 rfl (by omega) (by omega) dX10_wordAt_49 (fun v32 ev32 lv32 uv32 => ?_)
            obtain ⟨w33, ew33⟩ : ∃ y : Int64, v32.toInt64 = y := ⟨_, rfl⟩
            refine lv_i2l hx hb dX10_wordAt_50 ew33 ?_
            refine lv_ladd hx hb dX10_wordAt_51 ?_
            refine lv_topl (fun w34 ew34 => ?_)
            refine lv_ldc2 (v := (96)) hx hb Z.1.2.2.2.1 (hts _ (List.mem_of_getElem? (i := 5) rfl)) dX10_wordAt_52 ?_
            refine lv_topl (fun w35 ew35 => ?_)
            have tw35 : w35.toInt = 96 := by rw [ew35]; decide +kernel
            refine lv_lsub hx hb dX10_wordAt_55 ?_
            refine lv_topl (fun w36 ew36 => ?_)
            refine lv_goto (tgt := 60) hx hb dX10_wordAt_56 (by decide) ?_
            exact J60 w36 H20 k21 l_7 S19 (by omega) (by omega) (lv_sub hl_7 [0, 2] rfl)
  refine lv_lconst (v := 0) hx hb dX10_wordAt_0 (by decide +kernel) ?_
  refine lv_topl (fun w37 ew37 => ?_)
  have tw37 : w37.toInt = 0 := by rw [ew37]; decide +kernel
  refine lv_lstore_n (lv' := [(1, .long w37), (0, .ref a0)]) hx hb dX10_wordAt_1 rfl hl (by decide) rfl (fun l38 hl39 => ?_)
  refine lv_aload_n hx hb dX10_wordAt_2 rfl (lv_at hl39 1 rfl) ?_
  refine tr_geti Z.1 Z.2.2.2.1 S0.1 S0.2 ha0 ta0 rfl rfl (fun _ h => List.mem_cons_of_mem _ (List.mem_append_right _ h)) 22 (by decide) rfl (hts _ (List.mem_of_getElem? (i := 1) rfl)) dX10_wordAt_3 (fun v40 ev40 lv40 uv40 => ?_)
  refine lv_istore_n (lv' := [(3, .int v40), (1, .long w37), (0, .ref a0)]) hx hb dX10_wordAt_6 rfl hl39 (by decide) rfl (fun l41 hl42 => ?_)
  exact J7 _ w37 v40 s.heap [] l41 S0 (by omega) (by omega) (Nat.lt_succ_self _) (lv_sub hl42 [2, 1, 0] rfl)

set_option maxRecDepth 20000 in
theorem ggX10_nameOf_X10_packed : GoodIn wsX10_nameOf wsX10_packed := goodIn_r _ [5, 6, 7] (by decide +kernel) (by decide +kernel)
set_option maxRecDepth 20000 in
theorem gX10_nameOf_X10_packed : GoodIn wsX10_nameOf (wsV RX10 170 RX10 yX10_packed wsX10_packed) := goodIn_app (goodIn_of _ (by decide +kernel)) ggX10_nameOf_X10_packed
theorem dX10_nameOf_0 : decode cX10_nameOf 0 = .ok (.lload_n 1, 1) := by decide +kernel
theorem dX10_nameOf_1 : decode cX10_nameOf 1 = .ok (.aload_n 0, 1) := by decide +kernel
theorem dX10_nameOf_2 : decode cX10_nameOf 2 = .ok (.bipush 114, 2) := by decide +kernel
theorem dX10_nameOf_4 : decode cX10_nameOf 4 = .ok (.bipush 105, 2) := by decide +kernel
theorem dX10_nameOf_6 : decode cX10_nameOf 6 = .ok (.bipush 115, 2) := by decide +kernel
theorem dX10_nameOf_8 : decode cX10_nameOf 8 = .ok (.bipush 101, 2) := by decide +kernel
theorem dX10_nameOf_10 : decode cX10_nameOf 10 = .ok (.bipush 114, 2) := by decide +kernel
theorem dX10_nameOf_12 : decode cX10_nameOf 12 = .ok (.iconst 0, 1) := by decide +kernel
theorem dX10_nameOf_13 : decode cX10_nameOf 13 = .ok (.invokevirtual 170, 3) := by decide +kernel
theorem dX10_nameOf_16 : decode cX10_nameOf 16 = .ok (.lcmp, 1) := by decide +kernel
theorem dX10_nameOf_17 : decode cX10_nameOf 17 = .ok (.ifCond .ne 5, 3) := by decide +kernel
theorem dX10_nameOf_20 : decode cX10_nameOf 20 = .ok (.iconst 0, 1) := by decide +kernel
theorem dX10_nameOf_21 : decode cX10_nameOf 21 = .ok (.ireturn, 1) := by decide +kernel
theorem dX10_nameOf_22 : decode cX10_nameOf 22 = .ok (.lload_n 1, 1) := by decide +kernel
theorem dX10_nameOf_23 : decode cX10_nameOf 23 = .ok (.aload_n 0, 1) := by decide +kernel
theorem dX10_nameOf_24 : decode cX10_nameOf 24 = .ok (.bipush 103, 2) := by decide +kernel
theorem dX10_nameOf_26 : decode cX10_nameOf 26 = .ok (.bipush 111, 2) := by decide +kernel
theorem dX10_nameOf_28 : decode cX10_nameOf 28 = .ok (.bipush 105, 2) := by decide +kernel
theorem dX10_nameOf_30 : decode cX10_nameOf 30 = .ok (.bipush 110, 2) := by decide +kernel
theorem dX10_nameOf_32 : decode cX10_nameOf 32 = .ok (.bipush 103, 2) := by decide +kernel
theorem dX10_nameOf_34 : decode cX10_nameOf 34 = .ok (.iconst 0, 1) := by decide +kernel
theorem dX10_nameOf_35 : decode cX10_nameOf 35 = .ok (.invokevirtual 170, 3) := by decide +kernel
theorem dX10_nameOf_38 : decode cX10_nameOf 38 = .ok (.lcmp, 1) := by decide +kernel
theorem dX10_nameOf_39 : decode cX10_nameOf 39 = .ok (.ifCond .ne 5, 3) := by decide +kernel
theorem dX10_nameOf_42 : decode cX10_nameOf 42 = .ok (.iconst 1, 1) := by decide +kernel
theorem dX10_nameOf_43 : decode cX10_nameOf 43 = .ok (.ireturn, 1) := by decide +kernel
theorem dX10_nameOf_44 : decode cX10_nameOf 44 = .ok (.lload_n 1, 1) := by decide +kernel
theorem dX10_nameOf_45 : decode cX10_nameOf 45 = .ok (.aload_n 0, 1) := by decide +kernel
theorem dX10_nameOf_46 : decode cX10_nameOf 46 = .ok (.bipush 110, 2) := by decide +kernel
theorem dX10_nameOf_48 : decode cX10_nameOf 48 = .ok (.bipush 97, 2) := by decide +kernel
theorem dX10_nameOf_50 : decode cX10_nameOf 50 = .ok (.bipush 114, 2) := by decide +kernel
theorem dX10_nameOf_52 : decode cX10_nameOf 52 = .ok (.bipush 114, 2) := by decide +kernel
theorem dX10_nameOf_54 : decode cX10_nameOf 54 = .ok (.bipush 111, 2) := by decide +kernel
theorem dX10_nameOf_56 : decode cX10_nameOf 56 = .ok (.bipush 119, 2) := by decide +kernel
theorem dX10_nameOf_58 : decode cX10_nameOf 58 = .ok (.invokevirtual 170, 3) := by decide +kernel
theorem dX10_nameOf_61 : decode cX10_nameOf 61 = .ok (.lcmp, 1) := by decide +kernel
theorem dX10_nameOf_62 : decode cX10_nameOf 62 = .ok (.ifCond .ne 5, 3) := by decide +kernel
theorem dX10_nameOf_65 : decode cX10_nameOf 65 = .ok (.iconst 2, 1) := by decide +kernel
theorem dX10_nameOf_66 : decode cX10_nameOf 66 = .ok (.ireturn, 1) := by decide +kernel
theorem dX10_nameOf_67 : decode cX10_nameOf 67 = .ok (.lload_n 1, 1) := by decide +kernel
theorem dX10_nameOf_68 : decode cX10_nameOf 68 = .ok (.aload_n 0, 1) := by decide +kernel
theorem dX10_nameOf_69 : decode cX10_nameOf 69 = .ok (.bipush 104, 2) := by decide +kernel
theorem dX10_nameOf_71 : decode cX10_nameOf 71 = .ok (.bipush 101, 2) := by decide +kernel
theorem dX10_nameOf_73 : decode cX10_nameOf 73 = .ok (.bipush 97, 2) := by decide +kernel
theorem dX10_nameOf_75 : decode cX10_nameOf 75 = .ok (.bipush 100, 2) := by decide +kernel
theorem dX10_nameOf_77 : decode cX10_nameOf 77 = .ok (.iconst 0, 1) := by decide +kernel
theorem dX10_nameOf_78 : decode cX10_nameOf 78 = .ok (.iconst 0, 1) := by decide +kernel
theorem dX10_nameOf_79 : decode cX10_nameOf 79 = .ok (.invokevirtual 170, 3) := by decide +kernel
theorem dX10_nameOf_82 : decode cX10_nameOf 82 = .ok (.lcmp, 1) := by decide +kernel
theorem dX10_nameOf_83 : decode cX10_nameOf 83 = .ok (.ifCond .ne 5, 3) := by decide +kernel
theorem dX10_nameOf_86 : decode cX10_nameOf 86 = .ok (.iconst 3, 1) := by decide +kernel
theorem dX10_nameOf_87 : decode cX10_nameOf 87 = .ok (.ireturn, 1) := by decide +kernel
theorem dX10_nameOf_88 : decode cX10_nameOf 88 = .ok (.lload_n 1, 1) := by decide +kernel
theorem dX10_nameOf_89 : decode cX10_nameOf 89 = .ok (.aload_n 0, 1) := by decide +kernel
theorem dX10_nameOf_90 : decode cX10_nameOf 90 = .ok (.bipush 119, 2) := by decide +kernel
theorem dX10_nameOf_92 : decode cX10_nameOf 92 = .ok (.bipush 105, 2) := by decide +kernel
theorem dX10_nameOf_94 : decode cX10_nameOf 94 = .ok (.bipush 100, 2) := by decide +kernel
theorem dX10_nameOf_96 : decode cX10_nameOf 96 = .ok (.bipush 101, 2) := by decide +kernel
theorem dX10_nameOf_98 : decode cX10_nameOf 98 = .ok (.iconst 0, 1) := by decide +kernel
theorem dX10_nameOf_99 : decode cX10_nameOf 99 = .ok (.iconst 0, 1) := by decide +kernel
theorem dX10_nameOf_100 : decode cX10_nameOf 100 = .ok (.invokevirtual 170, 3) := by decide +kernel
theorem dX10_nameOf_103 : decode cX10_nameOf 103 = .ok (.lcmp, 1) := by decide +kernel
theorem dX10_nameOf_104 : decode cX10_nameOf 104 = .ok (.ifCond .ne 5, 3) := by decide +kernel
theorem dX10_nameOf_107 : decode cX10_nameOf 107 = .ok (.iconst 4, 1) := by decide +kernel
theorem dX10_nameOf_108 : decode cX10_nameOf 108 = .ok (.ireturn, 1) := by decide +kernel
theorem dX10_nameOf_109 : decode cX10_nameOf 109 = .ok (.lload_n 1, 1) := by decide +kernel
theorem dX10_nameOf_110 : decode cX10_nameOf 110 = .ok (.aload_n 0, 1) := by decide +kernel
theorem dX10_nameOf_111 : decode cX10_nameOf 111 = .ok (.bipush 99, 2) := by decide +kernel
theorem dX10_nameOf_113 : decode cX10_nameOf 113 = .ok (.bipush 111, 2) := by decide +kernel
theorem dX10_nameOf_115 : decode cX10_nameOf 115 = .ok (.bipush 117, 2) := by decide +kernel
theorem dX10_nameOf_117 : decode cX10_nameOf 117 = .ok (.bipush 110, 2) := by decide +kernel
theorem dX10_nameOf_119 : decode cX10_nameOf 119 = .ok (.bipush 116, 2) := by decide +kernel
theorem dX10_nameOf_121 : decode cX10_nameOf 121 = .ok (.iconst 0, 1) := by decide +kernel
theorem dX10_nameOf_122 : decode cX10_nameOf 122 = .ok (.invokevirtual 170, 3) := by decide +kernel
theorem dX10_nameOf_125 : decode cX10_nameOf 125 = .ok (.lcmp, 1) := by decide +kernel
theorem dX10_nameOf_126 : decode cX10_nameOf 126 = .ok (.ifCond .ne 5, 3) := by decide +kernel
theorem dX10_nameOf_129 : decode cX10_nameOf 129 = .ok (.iconst 5, 1) := by decide +kernel
theorem dX10_nameOf_130 : decode cX10_nameOf 130 = .ok (.ireturn, 1) := by decide +kernel
theorem dX10_nameOf_131 : decode cX10_nameOf 131 = .ok (.lload_n 1, 1) := by decide +kernel
theorem dX10_nameOf_132 : decode cX10_nameOf 132 = .ok (.aload_n 0, 1) := by decide +kernel
theorem dX10_nameOf_133 : decode cX10_nameOf 133 = .ok (.bipush 110, 2) := by decide +kernel
theorem dX10_nameOf_135 : decode cX10_nameOf 135 = .ok (.bipush 117, 2) := by decide +kernel
theorem dX10_nameOf_137 : decode cX10_nameOf 137 = .ok (.bipush 109, 2) := by decide +kernel
theorem dX10_nameOf_139 : decode cX10_nameOf 139 = .ok (.bipush 98, 2) := by decide +kernel
theorem dX10_nameOf_141 : decode cX10_nameOf 141 = .ok (.bipush 101, 2) := by decide +kernel
theorem dX10_nameOf_143 : decode cX10_nameOf 143 = .ok (.bipush 114, 2) := by decide +kernel
theorem dX10_nameOf_145 : decode cX10_nameOf 145 = .ok (.invokevirtual 170, 3) := by decide +kernel
theorem dX10_nameOf_148 : decode cX10_nameOf 148 = .ok (.lcmp, 1) := by decide +kernel
theorem dX10_nameOf_149 : decode cX10_nameOf 149 = .ok (.ifCond .ne 6, 3) := by decide +kernel
theorem dX10_nameOf_152 : decode cX10_nameOf 152 = .ok (.bipush 6, 2) := by decide +kernel
theorem dX10_nameOf_154 : decode cX10_nameOf 154 = .ok (.ireturn, 1) := by decide +kernel
theorem dX10_nameOf_155 : decode cX10_nameOf 155 = .ok (.lload_n 1, 1) := by decide +kernel
theorem dX10_nameOf_156 : decode cX10_nameOf 156 = .ok (.aload_n 0, 1) := by decide +kernel
theorem dX10_nameOf_157 : decode cX10_nameOf 157 = .ok (.bipush 107, 2) := by decide +kernel
theorem dX10_nameOf_159 : decode cX10_nameOf 159 = .ok (.bipush 105, 2) := by decide +kernel
theorem dX10_nameOf_161 : decode cX10_nameOf 161 = .ok (.bipush 110, 2) := by decide +kernel
theorem dX10_nameOf_163 : decode cX10_nameOf 163 = .ok (.bipush 100, 2) := by decide +kernel
theorem dX10_nameOf_165 : decode cX10_nameOf 165 = .ok (.iconst 0, 1) := by decide +kernel
theorem dX10_nameOf_166 : decode cX10_nameOf 166 = .ok (.iconst 0, 1) := by decide +kernel
theorem dX10_nameOf_167 : decode cX10_nameOf 167 = .ok (.invokevirtual 170, 3) := by decide +kernel
theorem dX10_nameOf_170 : decode cX10_nameOf 170 = .ok (.lcmp, 1) := by decide +kernel
theorem dX10_nameOf_171 : decode cX10_nameOf 171 = .ok (.ifCond .ne 8, 3) := by decide +kernel
theorem dX10_nameOf_174 : decode cX10_nameOf 174 = .ok (.bipush 7, 2) := by decide +kernel
theorem dX10_nameOf_176 : decode cX10_nameOf 176 = .ok (.goto 4, 3) := by decide +kernel
theorem dX10_nameOf_179 : decode cX10_nameOf 179 = .ok (.iconst (-1), 1) := by decide +kernel
theorem dX10_nameOf_180 : decode cX10_nameOf 180 = .ok (.ireturn, 1) := by decide +kernel
set_option maxHeartbeats 4000000 in
set_option maxRecDepth 100000 in
theorem k_X10_nameOf (l : Launch) (D : va_G) (cy : Nat → ClassId) {L : List Nat} {τ : Nat → Ro} {E : Ec} (hI : Inv TB cy L τ E) {a0 : Nat} (ha0 : a0 ∈ L) (ta0 : τ a0 = (11, 0)) (a1 : Int64) : CtI l yX10_nameOf wsX10_nameOf { frames := 1, cells := 0, slots := 0, locals := 28 } D TB cy L τ E [.ref a0, .long a1] (inW []) (fun r E' => E' = E ∧ -1 ≤ r.toInt ∧ r.toInt ≤ 7) := by
  intro sz
  refine sta (cc := cX10_nameOf) (maxL := 3) hI (by decide) rfl (Nat.le_of_ble_eq_true rfl) (fun p e s m args below meth c ls hsz Z S0 hl => ?_)
  have hx := Z.1.1
  have hb := Z.1.2.1
  have hts := Z.1.2.2.2.2
  have F0_ : Fr L τ (inW []) E E := Fr.refl
  have hl : lv_has ls 3 [(0, .ref a0), (1, .long a1)] := hl
  generalize hQ : MQ below _ args s 0 0 _ = QQ
  refine lv_lload_n hx hb dX10_nameOf_0 rfl (lv_at hl 1 rfl) ?_
  refine lv_aload_n hx hb dX10_nameOf_1 rfl (lv_at hl 0 rfl) ?_
  obtain ⟨v1, ev1, tv1⟩ : ∃ v : Int32, (Int8.ofInt (114)).toInt32 = v ∧ v.toInt = 114 := ⟨_, rfl, by decide +kernel⟩
  refine lv_bipush hx hb dX10_nameOf_2 ev1 ?_
  obtain ⟨v2, ev2, tv2⟩ : ∃ v : Int32, (Int8.ofInt (105)).toInt32 = v ∧ v.toInt = 105 := ⟨_, rfl, by decide +kernel⟩
  refine lv_bipush hx hb dX10_nameOf_4 ev2 ?_
  obtain ⟨v3, ev3, tv3⟩ : ∃ v : Int32, (Int8.ofInt (115)).toInt32 = v ∧ v.toInt = 115 := ⟨_, rfl, by decide +kernel⟩
  refine lv_bipush hx hb dX10_nameOf_6 ev3 ?_
  obtain ⟨v4, ev4, tv4⟩ : ∃ v : Int32, (Int8.ofInt (101)).toInt32 = v ∧ v.toInt = 101 := ⟨_, rfl, by decide +kernel⟩
  refine lv_bipush hx hb dX10_nameOf_8 ev4 ?_
  obtain ⟨v5, ev5, tv5⟩ : ∃ v : Int32, (Int8.ofInt (114)).toInt32 = v ∧ v.toInt = 114 := ⟨_, rfl, by decide +kernel⟩
  refine lv_bipush hx hb dX10_nameOf_10 ev5 ?_
  obtain ⟨v6, ev6, tv6⟩ : ∃ v : Int32, Int32.ofInt (0) = v ∧ v.toInt = 0 := ⟨_, rfl, by decide +kernel⟩
  refine lv_iconst hx hb dX10_nameOf_12 ev6 ?_
  refine tc_vl Z.1 Z.2.2.2.1 Z.2.2.2.2.1 Z.2.2.2.2.2 S0.1 S0.2 ha0 ta0 rfl rfl (k_X10_packed l D cy S0.2 ha0 ta0 v1 v2 v3 v4 v5 v6) (cwV 6 hts gX10_nameOf_X10_packed rfl rfl rfl (by decide +kernel) ⟨Nat.le_of_ble_eq_true rfl, Nat.le_of_ble_eq_true rfl⟩) rfl hl.1 rfl (Nat.le_of_ble_eq_true rfl) dX10_nameOf_13 ⟨Nat.zero_le _, Nat.zero_le _⟩ (fun v10 E7 H8 k9 W7 I7 G7 p7 => ?_)
  have q7 := p7
  have q7 := q7.symm
  subst q7
  have S7 : Now D TB cy (va_A (va_pl L E) sz) s L τ E H8 k9 := ⟨W7, I7⟩
  refine W.lcmp hx hb dX10_nameOf_16 ?_
  refine lv_topi (fun v11 ev11 => ?_)
  have tv11 := nl_cmp ev11
  refine lv_if_ne (tgt := 22) hx hb dX10_nameOf_17 (by decide) (fun c12 => ?_) (fun c12 => ?_)
  · skip
    have tc12 := nu_ne c12
    have uc12 : (0 : Int32).toInt = 0 := rfl
    refine lv_lload_n hx hb dX10_nameOf_22 rfl (lv_at hl 1 rfl) ?_
    refine lv_aload_n hx hb dX10_nameOf_23 rfl (lv_at hl 0 rfl) ?_
    obtain ⟨v13, ev13, tv13⟩ : ∃ v : Int32, (Int8.ofInt (103)).toInt32 = v ∧ v.toInt = 103 := ⟨_, rfl, by decide +kernel⟩
    refine lv_bipush hx hb dX10_nameOf_24 ev13 ?_
    obtain ⟨v14, ev14, tv14⟩ : ∃ v : Int32, (Int8.ofInt (111)).toInt32 = v ∧ v.toInt = 111 := ⟨_, rfl, by decide +kernel⟩
    refine lv_bipush hx hb dX10_nameOf_26 ev14 ?_
    obtain ⟨v15, ev15, tv15⟩ : ∃ v : Int32, (Int8.ofInt (105)).toInt32 = v ∧ v.toInt = 105 := ⟨_, rfl, by decide +kernel⟩
    refine lv_bipush hx hb dX10_nameOf_28 ev15 ?_
    obtain ⟨v16, ev16, tv16⟩ : ∃ v : Int32, (Int8.ofInt (110)).toInt32 = v ∧ v.toInt = 110 := ⟨_, rfl, by decide +kernel⟩
    refine lv_bipush hx hb dX10_nameOf_30 ev16 ?_
    obtain ⟨v17, ev17, tv17⟩ : ∃ v : Int32, (Int8.ofInt (103)).toInt32 = v ∧ v.toInt = 103 := ⟨_, rfl, by decide +kernel⟩
    refine lv_bipush hx hb dX10_nameOf_32 ev17 ?_
    obtain ⟨v18, ev18, tv18⟩ : ∃ v : Int32, Int32.ofInt (0) = v ∧ v.toInt = 0 := ⟨_, rfl, by decide +kernel⟩
    refine lv_iconst hx hb dX10_nameOf_34 ev18 ?_
    refine tc_vl Z.1 Z.2.2.2.1 Z.2.2.2.2.1 Z.2.2.2.2.2 S7.1 S7.2 ha0 ta0 rfl rfl (k_X10_packed l D cy S7.2 ha0 ta0 v13 v14 v15 v16 v17 v18) (cwV 6 hts gX10_nameOf_X10_packed rfl rfl rfl (by decide +kernel) ⟨Nat.le_of_ble_eq_true rfl, Nat.le_of_ble_eq_true rfl⟩) rfl hl.1 rfl (Nat.le_of_ble_eq_true rfl) dX10_nameOf_35 ⟨Nat.zero_le _, Nat.zero_le _⟩ (fun v22 E19 H20 k21 W19 I19 G19 p19 => ?_)
    have q19 := p19
    have q19 := q19.symm
    subst q19
    have S19 : Now D TB cy (va_A (va_pl L E) sz) s L τ E H20 k21 := ⟨W19, I19⟩
    refine W.lcmp hx hb dX10_nameOf_38 ?_
    refine lv_topi (fun v23 ev23 => ?_)
    have tv23 := nl_cmp ev23
    refine lv_if_ne (tgt := 44) hx hb dX10_nameOf_39 (by decide) (fun c24 => ?_) (fun c24 => ?_)
    · skip
      have tc24 := nu_ne c24
      have uc24 : (0 : Int32).toInt = 0 := rfl
      refine lv_lload_n hx hb dX10_nameOf_44 rfl (lv_at hl 1 rfl) ?_
      refine lv_aload_n hx hb dX10_nameOf_45 rfl (lv_at hl 0 rfl) ?_
      obtain ⟨v25, ev25, tv25⟩ : ∃ v : Int32, (Int8.ofInt (110)).toInt32 = v ∧ v.toInt = 110 := ⟨_, rfl, by decide +kernel⟩
      refine lv_bipush hx hb dX10_nameOf_46 ev25 ?_
      obtain ⟨v26, ev26, tv26⟩ : ∃ v : Int32, (Int8.ofInt (97)).toInt32 = v ∧ v.toInt = 97 := ⟨_, rfl, by decide +kernel⟩
      refine lv_bipush hx hb dX10_nameOf_48 ev26 ?_
      obtain ⟨v27, ev27, tv27⟩ : ∃ v : Int32, (Int8.ofInt (114)).toInt32 = v ∧ v.toInt = 114 := ⟨_, rfl, by decide +kernel⟩
      refine lv_bipush hx hb dX10_nameOf_50 ev27 ?_
      obtain ⟨v28, ev28, tv28⟩ : ∃ v : Int32, (Int8.ofInt (114)).toInt32 = v ∧ v.toInt = 114 := ⟨_, rfl, by decide +kernel⟩
      refine lv_bipush hx hb dX10_nameOf_52 ev28 ?_
      obtain ⟨v29, ev29, tv29⟩ : ∃ v : Int32, (Int8.ofInt (111)).toInt32 = v ∧ v.toInt = 111 := ⟨_, rfl, by decide +kernel⟩
      refine lv_bipush hx hb dX10_nameOf_54 ev29 ?_
      obtain ⟨v30, ev30, tv30⟩ : ∃ v : Int32, (Int8.ofInt (119)).toInt32 = v ∧ v.toInt = 119 := ⟨_, rfl, by decide +kernel⟩
      refine lv_bipush hx hb dX10_nameOf_56 ev30 ?_
      refine tc_vl Z.1 Z.2.2.2.1 Z.2.2.2.2.1 Z.2.2.2.2.2 S19.1 S19.2 ha0 ta0 rfl rfl (k_X10_packed l D cy S19.2 ha0 ta0 v25 v26 v27 v28 v29 v30) (cwV 6 hts gX10_nameOf_X10_packed rfl rfl rfl (by decide +kernel) ⟨Nat.le_of_ble_eq_true rfl, Nat.le_of_ble_eq_true rfl⟩) rfl hl.1 rfl (Nat.le_of_ble_eq_true rfl) dX10_nameOf_58 ⟨Nat.zero_le _, Nat.zero_le _⟩ (fun v34 E31 H32 k33 W31 I31 G31 p31 => ?_)
      have q31 := p31
      have q31 := q31.symm
      subst q31
      have S31 : Now D TB cy (va_A (va_pl L E) sz) s L τ E H32 k33 := ⟨W31, I31⟩
      refine W.lcmp hx hb dX10_nameOf_61 ?_
      refine lv_topi (fun v35 ev35 => ?_)
      have tv35 := nl_cmp ev35
      refine lv_if_ne (tgt := 67) hx hb dX10_nameOf_62 (by decide) (fun c36 => ?_) (fun c36 => ?_)
      · skip
        have tc36 := nu_ne c36
        have uc36 : (0 : Int32).toInt = 0 := rfl
        refine lv_lload_n hx hb dX10_nameOf_67 rfl (lv_at hl 1 rfl) ?_
        refine lv_aload_n hx hb dX10_nameOf_68 rfl (lv_at hl 0 rfl) ?_
        obtain ⟨v37, ev37, tv37⟩ : ∃ v : Int32, (Int8.ofInt (104)).toInt32 = v ∧ v.toInt = 104 := ⟨_, rfl, by decide +kernel⟩
        refine lv_bipush hx hb dX10_nameOf_69 ev37 ?_
        obtain ⟨v38, ev38, tv38⟩ : ∃ v : Int32, (Int8.ofInt (101)).toInt32 = v ∧ v.toInt = 101 := ⟨_, rfl, by decide +kernel⟩
        refine lv_bipush hx hb dX10_nameOf_71 ev38 ?_
        obtain ⟨v39, ev39, tv39⟩ : ∃ v : Int32, (Int8.ofInt (97)).toInt32 = v ∧ v.toInt = 97 := ⟨_, rfl, by decide +kernel⟩
        refine lv_bipush hx hb dX10_nameOf_73 ev39 ?_
        obtain ⟨v40, ev40, tv40⟩ : ∃ v : Int32, (Int8.ofInt (100)).toInt32 = v ∧ v.toInt = 100 := ⟨_, rfl, by decide +kernel⟩
        refine lv_bipush hx hb dX10_nameOf_75 ev40 ?_
        obtain ⟨v41, ev41, tv41⟩ : ∃ v : Int32, Int32.ofInt (0) = v ∧ v.toInt = 0 := ⟨_, rfl, by decide +kernel⟩
        refine lv_iconst hx hb dX10_nameOf_77 ev41 ?_
        obtain ⟨v42, ev42, tv42⟩ : ∃ v : Int32, Int32.ofInt (0) = v ∧ v.toInt = 0 := ⟨_, rfl, by decide +kernel⟩
        refine lv_iconst hx hb dX10_nameOf_78 ev42 ?_
        refine tc_vl Z.1 Z.2.2.2.1 Z.2.2.2.2.1 Z.2.2.2.2.2 S31.1 S31.2 ha0 ta0 rfl rfl (k_X10_packed l D cy S31.2 ha0 ta0 v37 v38 v39 v40 v41 v42) (cwV 6 hts gX10_nameOf_X10_packed rfl rfl rfl (by decide +kernel) ⟨Nat.le_of_ble_eq_true rfl, Nat.le_of_ble_eq_true rfl⟩) rfl hl.1 rfl (Nat.le_of_ble_eq_true rfl) dX10_nameOf_79 ⟨Nat.zero_le _, Nat.zero_le _⟩ (fun v46 E43 H44 k45 W43 I43 G43 p43 => ?_)
        have q43 := p43
        have q43 := q43.symm
        subst q43
        have S43 : Now D TB cy (va_A (va_pl L E) sz) s L τ E H44 k45 := ⟨W43, I43⟩
        refine W.lcmp hx hb dX10_nameOf_82 ?_
        refine lv_topi (fun v47 ev47 => ?_)
        have tv47 := nl_cmp ev47
        refine lv_if_ne (tgt := 88) hx hb dX10_nameOf_83 (by decide) (fun c48 => ?_) (fun c48 => ?_)
        · skip
          have tc48 := nu_ne c48
          have uc48 : (0 : Int32).toInt = 0 := rfl
          refine lv_lload_n hx hb dX10_nameOf_88 rfl (lv_at hl 1 rfl) ?_
          refine lv_aload_n hx hb dX10_nameOf_89 rfl (lv_at hl 0 rfl) ?_
          obtain ⟨v49, ev49, tv49⟩ : ∃ v : Int32, (Int8.ofInt (119)).toInt32 = v ∧ v.toInt = 119 := ⟨_, rfl, by decide +kernel⟩
          refine lv_bipush hx hb dX10_nameOf_90 ev49 ?_
          obtain ⟨v50, ev50, tv50⟩ : ∃ v : Int32, (Int8.ofInt (105)).toInt32 = v ∧ v.toInt = 105 := ⟨_, rfl, by decide +kernel⟩
          refine lv_bipush hx hb dX10_nameOf_92 ev50 ?_
          obtain ⟨v51, ev51, tv51⟩ : ∃ v : Int32, (Int8.ofInt (100)).toInt32 = v ∧ v.toInt = 100 := ⟨_, rfl, by decide +kernel⟩
          refine lv_bipush hx hb dX10_nameOf_94 ev51 ?_
          obtain ⟨v52, ev52, tv52⟩ : ∃ v : Int32, (Int8.ofInt (101)).toInt32 = v ∧ v.toInt = 101 := ⟨_, rfl, by decide +kernel⟩
          refine lv_bipush hx hb dX10_nameOf_96 ev52 ?_
          obtain ⟨v53, ev53, tv53⟩ : ∃ v : Int32, Int32.ofInt (0) = v ∧ v.toInt = 0 := ⟨_, rfl, by decide +kernel⟩
          refine lv_iconst hx hb dX10_nameOf_98 ev53 ?_
          obtain ⟨v54, ev54, tv54⟩ : ∃ v : Int32, Int32.ofInt (0) = v ∧ v.toInt = 0 := ⟨_, rfl, by decide +kernel⟩
          refine lv_iconst hx hb dX10_nameOf_99 ev54 ?_
          refine tc_vl Z.1 Z.2.2.2.1 Z.2.2.2.2.1 Z.2.2.2.2.2 S43.1 S43.2 ha0 ta0 rfl rfl (k_X10_packed l D cy S43.2 ha0 ta0 v49 v50 v51 v52 v53 v54) (cwV 6 hts gX10_nameOf_X10_packed rfl rfl rfl (by decide +kernel) ⟨Nat.le_of_ble_eq_true rfl, Nat.le_of_ble_eq_true rfl⟩) rfl hl.1 rfl (Nat.le_of_ble_eq_true rfl) dX10_nameOf_100 ⟨Nat.zero_le _, Nat.zero_le _⟩ (fun v58 E55 H56 k57 W55 I55 G55 p55 => ?_)
          have q55 := p55
          have q55 := q55.symm
          subst q55
          have S55 : Now D TB cy (va_A (va_pl L E) sz) s L τ E H56 k57 := ⟨W55, I55⟩
          refine W.lcmp hx hb dX10_nameOf_103 ?_
          refine lv_topi (fun v59 ev59 => ?_)
          have tv59 := nl_cmp ev59
          refine lv_if_ne (tgt := 109) hx hb dX10_nameOf_104 (by decide) (fun c60 => ?_) (fun c60 => ?_)
          · skip
            have tc60 := nu_ne c60
            have uc60 : (0 : Int32).toInt = 0 := rfl
            refine lv_lload_n hx hb dX10_nameOf_109 rfl (lv_at hl 1 rfl) ?_
            refine lv_aload_n hx hb dX10_nameOf_110 rfl (lv_at hl 0 rfl) ?_
            obtain ⟨v61, ev61, tv61⟩ : ∃ v : Int32, (Int8.ofInt (99)).toInt32 = v ∧ v.toInt = 99 := ⟨_, rfl, by decide +kernel⟩
            refine lv_bipush hx hb dX10_nameOf_111 ev61 ?_
            obtain ⟨v62, ev62, tv62⟩ : ∃ v : Int32, (Int8.ofInt (111)).toInt32 = v ∧ v.toInt = 111 := ⟨_, rfl, by decide +kernel⟩
            refine lv_bipush hx hb dX10_nameOf_113 ev62 ?_
            obtain ⟨v63, ev63, tv63⟩ : ∃ v : Int32, (Int8.ofInt (117)).toInt32 = v ∧ v.toInt = 117 := ⟨_, rfl, by decide +kernel⟩
            refine lv_bipush hx hb dX10_nameOf_115 ev63 ?_
            obtain ⟨v64, ev64, tv64⟩ : ∃ v : Int32, (Int8.ofInt (110)).toInt32 = v ∧ v.toInt = 110 := ⟨_, rfl, by decide +kernel⟩
            refine lv_bipush hx hb dX10_nameOf_117 ev64 ?_
            obtain ⟨v65, ev65, tv65⟩ : ∃ v : Int32, (Int8.ofInt (116)).toInt32 = v ∧ v.toInt = 116 := ⟨_, rfl, by decide +kernel⟩
            refine lv_bipush hx hb dX10_nameOf_119 ev65 ?_
            obtain ⟨v66, ev66, tv66⟩ : ∃ v : Int32, Int32.ofInt (0) = v ∧ v.toInt = 0 := ⟨_, rfl, by decide +kernel⟩
            refine lv_iconst hx hb dX10_nameOf_121 ev66 ?_
            refine tc_vl Z.1 Z.2.2.2.1 Z.2.2.2.2.1 Z.2.2.2.2.2 S55.1 S55.2 ha0 ta0 rfl rfl (k_X10_packed l D cy S55.2 ha0 ta0 v61 v62 v63 v64 v65 v66) (cwV 6 hts gX10_nameOf_X10_packed rfl rfl rfl (by decide +kernel) ⟨Nat.le_of_ble_eq_true rfl, Nat.le_of_ble_eq_true rfl⟩) rfl hl.1 rfl (Nat.le_of_ble_eq_true rfl) dX10_nameOf_122 ⟨Nat.zero_le _, Nat.zero_le _⟩ (fun v70 E67 H68 k69 W67 I67 G67 p67 => ?_)
            have q67 := p67
            have q67 := q67.symm
            subst q67
            have S67 : Now D TB cy (va_A (va_pl L E) sz) s L τ E H68 k69 := ⟨W67, I67⟩
            refine W.lcmp hx hb dX10_nameOf_125 ?_
            refine lv_topi (fun v71 ev71 => ?_)
            have tv71 := nl_cmp ev71
            refine lv_if_ne (tgt := 131) hx hb dX10_nameOf_126 (by decide) (fun c72 => ?_) (fun c72 => ?_)
            · skip
              have tc72 := nu_ne c72
              have uc72 : (0 : Int32).toInt = 0 := rfl
              refine lv_lload_n hx hb dX10_nameOf_131 rfl (lv_at hl 1 rfl) ?_
              refine lv_aload_n hx hb dX10_nameOf_132 rfl (lv_at hl 0 rfl) ?_
              obtain ⟨v73, ev73, tv73⟩ : ∃ v : Int32, (Int8.ofInt (110)).toInt32 = v ∧ v.toInt = 110 := ⟨_, rfl, by decide +kernel⟩
              refine lv_bipush hx hb dX10_nameOf_133 ev73 ?_
              obtain ⟨v74, ev74, tv74⟩ : ∃ v : Int32, (Int8.ofInt (117)).toInt32 = v ∧ v.toInt = 117 := ⟨_, rfl, by decide +kernel⟩
              refine lv_bipush hx hb dX10_nameOf_135 ev74 ?_
              obtain ⟨v75, ev75, tv75⟩ : ∃ v : Int32, (Int8.ofInt (109)).toInt32 = v ∧ v.toInt = 109 := ⟨_, rfl, by decide +kernel⟩
              refine lv_bipush hx hb dX10_nameOf_137 ev75 ?_
              obtain ⟨v76, ev76, tv76⟩ : ∃ v : Int32, (Int8.ofInt (98)).toInt32 = v ∧ v.toInt = 98 := ⟨_, rfl, by decide +kernel⟩
              refine lv_bipush hx hb dX10_nameOf_139 ev76 ?_
              obtain ⟨v77, ev77, tv77⟩ : ∃ v : Int32, (Int8.ofInt (101)).toInt32 = v ∧ v.toInt = 101 := ⟨_, rfl, by decide +kernel⟩
              refine lv_bipush hx hb dX10_nameOf_141 ev77 ?_
              obtain ⟨v78, ev78, tv78⟩ : ∃ v : Int32, (Int8.ofInt (114)).toInt32 = v ∧ v.toInt = 114 := ⟨_, rfl, by decide +kernel⟩
              refine lv_bipush hx hb dX10_nameOf_143 ev78 ?_
              refine tc_vl Z.1 Z.2.2.2.1 Z.2.2.2.2.1 Z.2.2.2.2.2 S67.1 S67.2 ha0 ta0 rfl rfl (k_X10_packed l D cy S67.2 ha0 ta0 v73 v74 v75 v76 v77 v78) (cwV 6 hts gX10_nameOf_X10_packed rfl rfl rfl (by decide +kernel) ⟨Nat.le_of_ble_eq_true rfl, Nat.le_of_ble_eq_true rfl⟩) rfl hl.1 rfl (Nat.le_of_ble_eq_true rfl) dX10_nameOf_145 ⟨Nat.zero_le _, Nat.zero_le _⟩ (fun v82 E79 H80 k81 W79 I79 G79 p79 => ?_)
              have q79 := p79
              have q79 := q79.symm
              subst q79
              have S79 : Now D TB cy (va_A (va_pl L E) sz) s L τ E H80 k81 := ⟨W79, I79⟩
              refine W.lcmp hx hb dX10_nameOf_148 ?_
              refine lv_topi (fun v83 ev83 => ?_)
              have tv83 := nl_cmp ev83
              refine lv_if_ne (tgt := 155) hx hb dX10_nameOf_149 (by decide) (fun c84 => ?_) (fun c84 => ?_)
              · skip
                have tc84 := nu_ne c84
                have uc84 : (0 : Int32).toInt = 0 := rfl
                refine lv_lload_n hx hb dX10_nameOf_155 rfl (lv_at hl 1 rfl) ?_
                refine lv_aload_n hx hb dX10_nameOf_156 rfl (lv_at hl 0 rfl) ?_
                obtain ⟨v85, ev85, tv85⟩ : ∃ v : Int32, (Int8.ofInt (107)).toInt32 = v ∧ v.toInt = 107 := ⟨_, rfl, by decide +kernel⟩
                refine lv_bipush hx hb dX10_nameOf_157 ev85 ?_
                obtain ⟨v86, ev86, tv86⟩ : ∃ v : Int32, (Int8.ofInt (105)).toInt32 = v ∧ v.toInt = 105 := ⟨_, rfl, by decide +kernel⟩
                refine lv_bipush hx hb dX10_nameOf_159 ev86 ?_
                obtain ⟨v87, ev87, tv87⟩ : ∃ v : Int32, (Int8.ofInt (110)).toInt32 = v ∧ v.toInt = 110 := ⟨_, rfl, by decide +kernel⟩
                refine lv_bipush hx hb dX10_nameOf_161 ev87 ?_
                obtain ⟨v88, ev88, tv88⟩ : ∃ v : Int32, (Int8.ofInt (100)).toInt32 = v ∧ v.toInt = 100 := ⟨_, rfl, by decide +kernel⟩
                refine lv_bipush hx hb dX10_nameOf_163 ev88 ?_
                obtain ⟨v89, ev89, tv89⟩ : ∃ v : Int32, Int32.ofInt (0) = v ∧ v.toInt = 0 := ⟨_, rfl, by decide +kernel⟩
                refine lv_iconst hx hb dX10_nameOf_165 ev89 ?_
                obtain ⟨v90, ev90, tv90⟩ : ∃ v : Int32, Int32.ofInt (0) = v ∧ v.toInt = 0 := ⟨_, rfl, by decide +kernel⟩
                refine lv_iconst hx hb dX10_nameOf_166 ev90 ?_
                refine tc_vl Z.1 Z.2.2.2.1 Z.2.2.2.2.1 Z.2.2.2.2.2 S79.1 S79.2 ha0 ta0 rfl rfl (k_X10_packed l D cy S79.2 ha0 ta0 v85 v86 v87 v88 v89 v90) (cwV 6 hts gX10_nameOf_X10_packed rfl rfl rfl (by decide +kernel) ⟨Nat.le_of_ble_eq_true rfl, Nat.le_of_ble_eq_true rfl⟩) rfl hl.1 rfl (Nat.le_of_ble_eq_true rfl) dX10_nameOf_167 ⟨Nat.zero_le _, Nat.zero_le _⟩ (fun v94 E91 H92 k93 W91 I91 G91 p91 => ?_)
                have q91 := p91
                have q91 := q91.symm
                subst q91
                have S91 : Now D TB cy (va_A (va_pl L E) sz) s L τ E H92 k93 := ⟨W91, I91⟩
                refine W.lcmp hx hb dX10_nameOf_170 ?_
                refine lv_topi (fun v95 ev95 => ?_)
                have tv95 := nl_cmp ev95
                refine lv_if_ne (tgt := 179) hx hb dX10_nameOf_171 (by decide) (fun c96 => ?_) (fun c96 => ?_)
                · skip
                  have tc96 := nu_ne c96
                  have uc96 : (0 : Int32).toInt = 0 := rfl
                  obtain ⟨v97, ev97, tv97⟩ : ∃ v : Int32, Int32.ofInt (-1) = v ∧ v.toInt = -1 := ⟨_, rfl, by decide +kernel⟩
                  refine lv_iconst hx hb dX10_nameOf_179 ev97 ?_
                  rw [← hQ]
                  exact en_i Z S91 F0_ ⟨rfl, (by omega), (by omega)⟩ dX10_nameOf_180
                · skip
                  have tc96 := nu_eq c96
                  have uc96 : (0 : Int32).toInt = 0 := rfl
                  obtain ⟨v98, ev98, tv98⟩ : ∃ v : Int32, (Int8.ofInt (7)).toInt32 = v ∧ v.toInt = 7 := ⟨_, rfl, by decide +kernel⟩
                  refine lv_bipush hx hb dX10_nameOf_174 ev98 ?_
                  refine lv_goto (tgt := 180) hx hb dX10_nameOf_176 (by decide) ?_
                  rw [← hQ]
                  exact en_i Z S91 F0_ ⟨rfl, (by omega), (by omega)⟩ dX10_nameOf_180
              · skip
                have tc84 := nu_eq c84
                have uc84 : (0 : Int32).toInt = 0 := rfl
                obtain ⟨v99, ev99, tv99⟩ : ∃ v : Int32, (Int8.ofInt (6)).toInt32 = v ∧ v.toInt = 6 := ⟨_, rfl, by decide +kernel⟩
                refine lv_bipush hx hb dX10_nameOf_152 ev99 ?_
                rw [← hQ]
                exact en_i Z S79 F0_ ⟨rfl, (by omega), (by omega)⟩ dX10_nameOf_154
            · skip
              have tc72 := nu_eq c72
              have uc72 : (0 : Int32).toInt = 0 := rfl
              obtain ⟨v100, ev100, tv100⟩ : ∃ v : Int32, Int32.ofInt (5) = v ∧ v.toInt = 5 := ⟨_, rfl, by decide +kernel⟩
              refine lv_iconst hx hb dX10_nameOf_129 ev100 ?_
              rw [← hQ]
              exact en_i Z S67 F0_ ⟨rfl, (by omega), (by omega)⟩ dX10_nameOf_130
          · skip
            have tc60 := nu_eq c60
            have uc60 : (0 : Int32).toInt = 0 := rfl
            obtain ⟨v101, ev101, tv101⟩ : ∃ v : Int32, Int32.ofInt (4) = v ∧ v.toInt = 4 := ⟨_, rfl, by decide +kernel⟩
            refine lv_iconst hx hb dX10_nameOf_107 ev101 ?_
            rw [← hQ]
            exact en_i Z S55 F0_ ⟨rfl, (by omega), (by omega)⟩ dX10_nameOf_108
        · skip
          have tc48 := nu_eq c48
          have uc48 : (0 : Int32).toInt = 0 := rfl
          obtain ⟨v102, ev102, tv102⟩ : ∃ v : Int32, Int32.ofInt (3) = v ∧ v.toInt = 3 := ⟨_, rfl, by decide +kernel⟩
          refine lv_iconst hx hb dX10_nameOf_86 ev102 ?_
          rw [← hQ]
          exact en_i Z S43 F0_ ⟨rfl, (by omega), (by omega)⟩ dX10_nameOf_87
      · skip
        have tc36 := nu_eq c36
        have uc36 : (0 : Int32).toInt = 0 := rfl
        obtain ⟨v103, ev103, tv103⟩ : ∃ v : Int32, Int32.ofInt (2) = v ∧ v.toInt = 2 := ⟨_, rfl, by decide +kernel⟩
        refine lv_iconst hx hb dX10_nameOf_65 ev103 ?_
        rw [← hQ]
        exact en_i Z S31 F0_ ⟨rfl, (by omega), (by omega)⟩ dX10_nameOf_66
    · skip
      have tc24 := nu_eq c24
      have uc24 : (0 : Int32).toInt = 0 := rfl
      obtain ⟨v104, ev104, tv104⟩ : ∃ v : Int32, Int32.ofInt (1) = v ∧ v.toInt = 1 := ⟨_, rfl, by decide +kernel⟩
      refine lv_iconst hx hb dX10_nameOf_42 ev104 ?_
      rw [← hQ]
      exact en_i Z S19 F0_ ⟨rfl, (by omega), (by omega)⟩ dX10_nameOf_43
  · skip
    have tc12 := nu_eq c12
    have uc12 : (0 : Int32).toInt = 0 := rfl
    obtain ⟨v105, ev105, tv105⟩ : ∃ v : Int32, Int32.ofInt (0) = v ∧ v.toInt = 0 := ⟨_, rfl, by decide +kernel⟩
    refine lv_iconst hx hb dX10_nameOf_20 ev105 ?_
    rw [← hQ]
    exact en_i Z S7 F0_ ⟨rfl, (by omega), (by omega)⟩ dX10_nameOf_21

set_option maxRecDepth 20000 in
theorem ggX10_digits_X10_look : GoodIn wsX10_digits wsX10_look := goodIn_r _ [6, 1, 7, 8, 15, 16, 17, 18, 19, 20, 21, 22, 23, 24, 25, 26, 27, 28, 29, 30, 31, 32, 33, 34, 35, 36, 37, 38, 39, 40, 41, 42, 43, 44, 45, 46, 47, 48, 49, 50, 51, 52, 53, 54, 55, 56, 57, 58, 59, 60, 61, 62] (by decide +kernel) (by decide +kernel)
set_option maxRecDepth 20000 in
theorem gX10_digits_X10_look : GoodIn wsX10_digits (wsV RX10 157 RX10 yX10_look wsX10_look) := goodIn_app (goodIn_of _ (by decide +kernel)) ggX10_digits_X10_look
set_option maxRecDepth 20000 in
theorem ggX10_digits_X10_wrong : GoodIn wsX10_digits wsX10_wrong := goodIn_r _ [12, 13, 14, 15, 16, 17, 18, 19, 20, 21, 22, 23, 24, 25, 26, 27, 28, 29, 30, 31, 32, 33, 34, 35, 36, 37, 38, 39, 40, 41, 42, 43, 44, 45, 46, 47, 48, 49, 50, 51, 52, 53, 54, 55, 56, 57, 58, 59, 60, 61, 62] (by decide +kernel) (by decide +kernel)
set_option maxRecDepth 20000 in
theorem gX10_digits_X10_wrong : GoodIn wsX10_digits (wsV RX10 174 RX10 yX10_wrong wsX10_wrong) := goodIn_app (goodIn_of _ (by decide +kernel)) ggX10_digits_X10_wrong
theorem dX10_digits_0 : decode cX10_digits 0 = .ok (.aload_n 0, 1) := by decide +kernel
theorem dX10_digits_1 : decode cX10_digits 1 = .ok (.getfield 151, 3) := by decide +kernel
theorem dX10_digits_4 : decode cX10_digits 4 = .ok (.istore_n 1, 1) := by decide +kernel
theorem dX10_digits_5 : decode cX10_digits 5 = .ok (.iconst 0, 1) := by decide +kernel
theorem dX10_digits_6 : decode cX10_digits 6 = .ok (.istore_n 2, 1) := by decide +kernel
theorem dX10_digits_7 : decode cX10_digits 7 = .ok (.aload_n 0, 1) := by decide +kernel
theorem dX10_digits_8 : decode cX10_digits 8 = .ok (.invokevirtual 157, 3) := by decide +kernel
theorem dX10_digits_11 : decode cX10_digits 11 = .ok (.bipush 48, 2) := by decide +kernel
theorem dX10_digits_13 : decode cX10_digits 13 = .ok (.if_icmp .lt 49, 3) := by decide +kernel
theorem dX10_digits_16 : decode cX10_digits 16 = .ok (.aload_n 0, 1) := by decide +kernel
theorem dX10_digits_17 : decode cX10_digits 17 = .ok (.invokevirtual 157, 3) := by decide +kernel
theorem dX10_digits_20 : decode cX10_digits 20 = .ok (.bipush 57, 2) := by decide +kernel
theorem dX10_digits_22 : decode cX10_digits 22 = .ok (.if_icmp .gt 40, 3) := by decide +kernel
theorem dX10_digits_25 : decode cX10_digits 25 = .ok (.iload_n 2, 1) := by decide +kernel
theorem dX10_digits_26 : decode cX10_digits 26 = .ok (.sipush 9999, 3) := by decide +kernel
theorem dX10_digits_29 : decode cX10_digits 29 = .ok (.if_icmp .le 7, 3) := by decide +kernel
theorem dX10_digits_32 : decode cX10_digits 32 = .ok (.iload_n 2, 1) := by decide +kernel
theorem dX10_digits_33 : decode cX10_digits 33 = .ok (.goto 15, 3) := by decide +kernel
theorem dX10_digits_36 : decode cX10_digits 36 = .ok (.bipush 10, 2) := by decide +kernel
theorem dX10_digits_38 : decode cX10_digits 38 = .ok (.iload_n 2, 1) := by decide +kernel
theorem dX10_digits_39 : decode cX10_digits 39 = .ok (.imul, 1) := by decide +kernel
theorem dX10_digits_40 : decode cX10_digits 40 = .ok (.aload_n 0, 1) := by decide +kernel
theorem dX10_digits_41 : decode cX10_digits 41 = .ok (.invokevirtual 157, 3) := by decide +kernel
theorem dX10_digits_44 : decode cX10_digits 44 = .ok (.iadd, 1) := by decide +kernel
theorem dX10_digits_45 : decode cX10_digits 45 = .ok (.bipush 48, 2) := by decide +kernel
theorem dX10_digits_47 : decode cX10_digits 47 = .ok (.isub, 1) := by decide +kernel
theorem dX10_digits_48 : decode cX10_digits 48 = .ok (.istore_n 2, 1) := by decide +kernel
theorem dX10_digits_49 : decode cX10_digits 49 = .ok (.aload_n 0, 1) := by decide +kernel
theorem dX10_digits_50 : decode cX10_digits 50 = .ok (.dup, 1) := by decide +kernel
theorem dX10_digits_51 : decode cX10_digits 51 = .ok (.getfield 151, 3) := by decide +kernel
theorem dX10_digits_54 : decode cX10_digits 54 = .ok (.iconst 1, 1) := by decide +kernel
theorem dX10_digits_55 : decode cX10_digits 55 = .ok (.iadd, 1) := by decide +kernel
theorem dX10_digits_56 : decode cX10_digits 56 = .ok (.putfield 151, 3) := by decide +kernel
theorem dX10_digits_59 : decode cX10_digits 59 = .ok (.goto (-52), 3) := by decide +kernel
theorem dX10_digits_62 : decode cX10_digits 62 = .ok (.iload_n 2, 1) := by decide +kernel
theorem dX10_digits_63 : decode cX10_digits 63 = .ok (.sipush 9999, 3) := by decide +kernel
theorem dX10_digits_66 : decode cX10_digits 66 = .ok (.if_icmp .le 9, 3) := by decide +kernel
theorem dX10_digits_69 : decode cX10_digits 69 = .ok (.aload_n 0, 1) := by decide +kernel
theorem dX10_digits_70 : decode cX10_digits 70 = .ok (.iconst 2, 1) := by decide +kernel
theorem dX10_digits_71 : decode cX10_digits 71 = .ok (.iload_n 1, 1) := by decide +kernel
theorem dX10_digits_72 : decode cX10_digits 72 = .ok (.invokevirtual 174, 3) := by decide +kernel
theorem dX10_digits_75 : decode cX10_digits 75 = .ok (.iload_n 2, 1) := by decide +kernel
theorem dX10_digits_76 : decode cX10_digits 76 = .ok (.ireturn, 1) := by decide +kernel
set_option maxHeartbeats 4000000 in
set_option maxRecDepth 100000 in
theorem k_X10_digits (l : Launch) (D : va_G) (cy : Nat → ClassId) {L : List Nat} {τ : Nat → Ro} {E : Ec} (hI : Inv TB cy L τ E) {a0 : Nat} (ha0 : a0 ∈ L) (ta0 : τ a0 = (11, 0)) : CtI l yX10_digits wsX10_digits { frames := 1, cells := 0, slots := 0, locals := 22 } D TB cy L τ E [.ref a0] (inW [(11, 0)]) (fun r E' => ((fi E a0 22).toInt ≤ (fi E' a0 22).toInt) ∧ (∀ k : Nat, k ∉ ([5, 6, 22] : List Nat) → fi E' a0 k = fi E a0 k)) := by
  intro sz
  refine sta (cc := cX10_digits) (maxL := 3) hI (by decide) rfl (Nat.le_of_ble_eq_true rfl) (fun p e s m args below meth c ls hsz Z S0 hl => ?_)
  have hx := Z.1.1
  have hb := Z.1.2.1
  have hts := Z.1.2.2.2.2
  have F0_ : Fr L τ (inW [(11, 0)]) E E := Fr.refl
  have hl : lv_has ls 3 [(0, .ref a0)] := hl
  generalize hQ : MQ below _ args s 0 0 _ = QQ
  have kz_a0_22 := fi_rng (k := 22) hI ha0 ta0 rfl rfl
  have J62 : ∀ (x1_62 : Int32) (x2_62 : Int32) (E_62 : Ec) (H_62 : Heap) (k_62 : List Loc) (l_62 : Array Slot), Now D TB cy (va_A (va_pl L E) sz) s L τ E_62 H_62 k_62 → Fr L τ (inW [(11, 0)]) E E_62 → (0 ≤ x1_62.toInt) → (x1_62.toInt ≤ 120) → (∀ k : Nat, k ∉ ([5, 6, 22] : List Nat) → fi E_62 a0 k = fi E a0 k) → (0 ≤ (fi E_62 a0 22).toInt ∧ (fi E_62 a0 22).toInt ≤ 120 ∧ (fi E a0 22).toInt ≤ (fi E_62 a0 22).toInt) → lv_has l_62 3 [(0, .ref a0), (1, .int x1_62), (2, .int x2_62)] → W p l e { frames := 1, cells := 0, slots := 0, locals := 22 } s m args below meth c H_62 k_62 0 0 QQ (F0 m 62 l_62 []) := by
    intro x1_62 x2_62 E_62 H_62 k_62 l_62 S_62 F_62 z1 z2 z3 z4 hl_62
    refine lv_iload_n hx hb dX10_digits_62 rfl (lv_at hl_62 2 rfl) ?_
    obtain ⟨v5, ev5, tv5⟩ : ∃ v : Int32, (Int16.ofInt (9999)).toInt32 = v ∧ v.toInt = 9999 := ⟨_, rfl, by decide +kernel⟩
    refine lv_sipush hx hb dX10_digits_63 ev5 ?_
    refine lv_icmp_le (tgt := 75) hx hb dX10_digits_66 (by decide) (fun c6 => ?_) (fun c6 => ?_)
    · skip
      have tc6 := nu_le c6
      refine lv_iload_n hx hb dX10_digits_75 rfl (lv_at hl_62 2 rfl) ?_
      rw [← hQ]
      exact en_i Z S_62 F_62 ⟨(by omega), (fun k hk => (z3 k hk))⟩ dX10_digits_76
    · skip
      have tc6 := nu_nle c6
      refine lv_aload_n hx hb dX10_digits_69 rfl (lv_at hl_62 0 rfl) ?_
      obtain ⟨v7, ev7, tv7⟩ : ∃ v : Int32, Int32.ofInt (2) = v ∧ v.toInt = 2 := ⟨_, rfl, by decide +kernel⟩
      refine lv_iconst hx hb dX10_digits_70 ev7 ?_
      refine lv_iload_n hx hb dX10_digits_71 rfl (lv_at hl_62 1 rfl) ?_
      refine tc_vv Z.1 Z.2.2.2.1 Z.2.2.2.2.1 Z.2.2.2.2.2 S_62.1 S_62.2 ha0 ta0 rfl rfl (k_X10_wrong l D cy S_62.2 ha0 ta0 v7 (by omega) (by omega) x1_62) (cwV 2 hts gX10_digits_X10_wrong rfl rfl rfl (by decide +kernel) ⟨Nat.le_of_ble_eq_true rfl, Nat.le_of_ble_eq_true rfl⟩) rfl hl_62.1 rfl (Nat.le_of_ble_eq_true rfl) dX10_digits_72 ⟨Nat.zero_le _, Nat.zero_le _⟩ (fun E8 H9 k10 W8 I8 G8 p8 => ?_)
      obtain ⟨p8_0, p8_1⟩ := p8
      have S8 : Now D TB cy (va_A (va_pl L E) sz) s L τ E8 H9 k10 := ⟨W8, I8⟩
      have F8 : Fr L τ (inW [(11, 0)]) E E8 := F_62.trans (G8.mono (inW_mono (by decide)))
      refine lv_iload_n hx hb dX10_digits_75 rfl (lv_at hl_62 2 rfl) ?_
      rw [← hQ]
      exact en_i Z S8 F8 ⟨(by rw [((p8_1 22 (by decide)).trans rfl)]; omega), (fun k hk => ((p8_1 k (fw_sub (by decide) hk)).trans (z3 k hk)))⟩ dX10_digits_76
  have J7 : ∀ (n : Nat) (x1_7 : Int32) (x2_7 : Int32) (E_7 : Ec) (H_7 : Heap) (k_7 : List Loc) (l_7 : Array Slot), Now D TB cy (va_A (va_pl L E) sz) s L τ E_7 H_7 k_7 → Fr L τ (inW [(11, 0)]) E E_7 → (0 ≤ x1_7.toInt) → (x1_7.toInt ≤ 120) → (∀ k : Nat, k ∉ ([5, 6, 22] : List Nat) → fi E_7 a0 k = fi E a0 k) → (0 ≤ (fi E_7 a0 22).toInt ∧ (fi E_7 a0 22).toInt ≤ 120 ∧ (fi E a0 22).toInt ≤ (fi E_7 a0 22).toInt) → (120 - (fi E_7 a0 22).toInt).toNat < n → lv_has l_7 3 [(0, .ref a0), (1, .int x1_7), (2, .int x2_7)] → W p l e { frames := 1, cells := 0, slots := 0, locals := 22 } s m args below meth c H_7 k_7 0 0 QQ (F0 m 7 l_7 []) := by
    intro n
    induction n with
    | zero => intro x1_7 x2_7 E_7 H_7 k_7 l_7 S_7 F_7 z12 z13 z14 z15 hm hl_7; exact absurd hm (Nat.not_lt_zero _)
    | succ n ih =>
      intro x1_7 x2_7 E_7 H_7 k_7 l_7 S_7 F_7 z12 z13 z14 z15 hm hl_7
      have ih_7 := ih
      have J48 : ∀ (y0_48 : Int32) (E_48 : Ec) (H_48 : Heap) (k_48 : List Loc) (l_48 : Array Slot), Now D TB cy (va_A (va_pl L E) sz) s L τ E_48 H_48 k_48 → Fr L τ (inW [(11, 0)]) E E_48 → (0 ≤ x1_7.toInt) → (x1_7.toInt ≤ 120) → (∀ k : Nat, k ∉ ([5, 6, 22] : List Nat) → fi E_48 a0 k = fi E a0 k) → (0 ≤ (fi E_48 a0 22).toInt ∧ (fi E_48 a0 22).toInt ≤ 119 ∧ (fi E_48 a0 22).toInt = (fi E_7 a0 22).toInt) → lv_has l_48 3 [(0, .ref a0), (1, .int x1_7)] → W p l e { frames := 1, cells := 0, slots := 0, locals := 22 } s m args below meth c H_48 k_48 0 0 QQ (F0 m 48 l_48 [.int y0_48]) := by
        intro y0_48 E_48 H_48 k_48 l_48 S_48 F_48 z16 z17 z18 z19 hl_48
        refine lv_istore_n (lv' := [(2, .int y0_48), (0, .ref a0), (1, .int x1_7)]) hx hb dX10_digits_48 rfl hl_48 (by decide) rfl (fun l20 hl21 => ?_)
        refine lv_aload_n hx hb dX10_digits_49 rfl (lv_at hl21 1 rfl) ?_
        refine lv_dup hx hb dX10_digits_50 rfl ?_
        refine tr_geti Z.1 Z.2.2.2.1 S_48.1 S_48.2 ha0 ta0 rfl rfl (fun _ h => List.mem_cons_of_mem _ (List.mem_append_right _ h)) 22 (by decide) rfl (hts _ (List.mem_of_getElem? (i := 1) rfl)) dX10_digits_51 (fun v22 ev22 lv22 uv22 => ?_)
        have wv22 : v22 = (fi E_48 a0 22) := ev22.symm.trans rfl
        have xv22 : v22.toInt = (fi E_48 a0 22).toInt := by rw [wv22]
        obtain ⟨v23, ev23, tv23⟩ : ∃ v : Int32, Int32.ofInt (1) = v ∧ v.toInt = 1 := ⟨_, rfl, by decide +kernel⟩
        refine lv_iconst hx hb dX10_digits_54 ev23 ?_
        refine lv_iadd hx hb dX10_digits_55 ?_
        refine lv_topi (fun v24 ev24 => ?_)
        have tv24 := nu_add ev24 (by omega) (by omega)
        refine tr_puti Z.1 Z.2.2.2.1 S_48.1 S_48.2 ha0 ta0 rfl rfl (fun _ h => List.mem_cons_of_mem _ (List.mem_append_right _ h)) tyX10_ok nmX10 22 (by decide) rfl rfl rfl (hts _ (List.mem_of_getElem? (i := 1) rfl)) dX10_digits_56 (by omega) (by omega) (fun E25 H26 k27 W25 I25 P25 => ?_)
        have S25 : Now D TB cy (va_A (va_pl L E) sz) s L τ E25 H26 k27 := ⟨W25, I25⟩
        have F25 : Fr L τ (inW [(11, 0)]) E E25 := Fr.put F_48 P25 ta0 rfl
        refine lv_goto (tgt := 7) hx hb dX10_digits_59 (by decide) ?_
        exact ih_7 x1_7 y0_48 E25 H26 k27 l20 S25 F25 (by have := fb_rng y0_48; omega) (by have := fb_rng y0_48; omega) (fun k hk => ((fi_put P25 (Or.inr (fw_ne (by decide) hk))).trans (z18 k hk))) (by rw [(fi_at P25)]; have := fb_rng y0_48; omega) (by rw [(fi_at P25)]; omega) (lv_sub hl21 [1, 2, 0] rfl)
      refine lv_aload_n hx hb dX10_digits_7 rfl (lv_at hl_7 0 rfl) ?_
      refine tc_vi Z.1 Z.2.2.2.1 Z.2.2.2.2.1 Z.2.2.2.2.2 S_7.1 S_7.2 ha0 ta0 rfl rfl (k_X10_look l D cy S_7.2 ha0 ta0) (cwV 0 hts gX10_digits_X10_look rfl rfl rfl (by decide +kernel) ⟨Nat.le_of_ble_eq_true rfl, Nat.le_of_ble_eq_true rfl⟩) rfl hl_7.1 rfl (Nat.le_of_ble_eq_true rfl) dX10_digits_8 ⟨Nat.zero_le _, Nat.zero_le _⟩ (fun v31 E28 H29 k30 W28 I28 G28 p28 => ?_)
      obtain ⟨q28, p28_0, p28_1, p28_2⟩ := p28
      have q28 := q28.symm
      subst q28
      have S28 : Now D TB cy (va_A (va_pl L E) sz) s L τ E_7 H29 k30 := ⟨W28, I28⟩
      obtain ⟨v32, ev32, tv32⟩ : ∃ v : Int32, (Int8.ofInt (48)).toInt32 = v ∧ v.toInt = 48 := ⟨_, rfl, by decide +kernel⟩
      refine lv_bipush hx hb dX10_digits_11 ev32 ?_
      refine lv_icmp_lt (tgt := 62) hx hb dX10_digits_13 (by decide) (fun c33 => ?_) (fun c33 => ?_)
      · skip
        have tc33 := nu_lt c33
        exact J62 x1_7 x2_7 E_7 H29 k30 l_7 S28 F_7 (by have := fb_rng x2_7; omega) (by have := fb_rng x2_7; omega) (fun k hk => (z14 k hk)) (by have := fb_rng x2_7; omega) (lv_sub hl_7 [0, 1, 2] rfl)
      · skip
        have tc33 := nu_nlt c33
        refine lv_aload_n hx hb dX10_digits_16 rfl (lv_at hl_7 0 rfl) ?_
        refine tc_vi Z.1 Z.2.2.2.1 Z.2.2.2.2.1 Z.2.2.2.2.2 S28.1 S28.2 ha0 ta0 rfl rfl (k_X10_look l D cy S28.2 ha0 ta0) (cwV 0 hts gX10_digits_X10_look rfl rfl rfl (by decide +kernel) ⟨Nat.le_of_ble_eq_true rfl, Nat.le_of_ble_eq_true rfl⟩) rfl hl_7.1 rfl (Nat.le_of_ble_eq_true rfl) dX10_digits_17 ⟨Nat.zero_le _, Nat.zero_le _⟩ (fun v37 E34 H35 k36 W34 I34 G34 p34 => ?_)
        obtain ⟨q34, p34_0, p34_1, p34_2⟩ := p34
        have q34 := q34.symm
        subst q34
        have S34 : Now D TB cy (va_A (va_pl L E) sz) s L τ E_7 H35 k36 := ⟨W34, I34⟩
        obtain ⟨v38, ev38, tv38⟩ : ∃ v : Int32, (Int8.ofInt (57)).toInt32 = v ∧ v.toInt = 57 := ⟨_, rfl, by decide +kernel⟩
        refine lv_bipush hx hb dX10_digits_20 ev38 ?_
        refine lv_icmp_gt (tgt := 62) hx hb dX10_digits_22 (by decide) (fun c39 => ?_) (fun c39 => ?_)
        · skip
          have tc39 := nu_lt c39
          exact J62 x1_7 x2_7 E_7 H35 k36 l_7 S34 F_7 (by have := fb_rng x2_7; omega) (by have := fb_rng x2_7; omega) (fun k hk => (z14 k hk)) (by have := fb_rng x2_7; omega) (lv_sub hl_7 [0, 1, 2] rfl)
        · skip
          have tc39 := nu_nlt c39
          refine lv_iload_n hx hb dX10_digits_25 rfl (lv_at hl_7 2 rfl) ?_
          obtain ⟨v40, ev40, tv40⟩ : ∃ v : Int32, (Int16.ofInt (9999)).toInt32 = v ∧ v.toInt = 9999 := ⟨_, rfl, by decide +kernel⟩
          refine lv_sipush hx hb dX10_digits_26 ev40 ?_
          refine lv_icmp_le (tgt := 36) hx hb dX10_digits_29 (by decide) (fun c41 => ?_) (fun c41 => ?_)
          · skip
            have tc41 := nu_le c41
            obtain ⟨v42, ev42, tv42⟩ : ∃ v : Int32, (Int8.ofInt (10)).toInt32 = v ∧ v.toInt = 10 := ⟨_, rfl, by decide +kernel⟩
            refine lv_bipush hx hb dX10_digits_36 ev42 ?_
            refine lv_iload_n hx hb dX10_digits_38 rfl (lv_at hl_7 2 rfl) ?_
            refine lv_imul hx hb dX10_digits_39 ?_
            refine lv_topi (fun v43 ev43 => ?_)
            refine lv_aload_n hx hb dX10_digits_40 rfl (lv_at hl_7 0 rfl) ?_
            refine tc_vi Z.1 Z.2.2.2.1 Z.2.2.2.2.1 Z.2.2.2.2.2 S34.1 S34.2 ha0 ta0 rfl rfl (k_X10_look l D cy S34.2 ha0 ta0) (cwV 0 hts gX10_digits_X10_look rfl rfl rfl (by decide +kernel) ⟨Nat.le_of_ble_eq_true rfl, Nat.le_of_ble_eq_true rfl⟩) rfl hl_7.1 rfl (Nat.le_of_ble_eq_true rfl) dX10_digits_41 ⟨Nat.zero_le _, Nat.zero_le _⟩ (fun v47 E44 H45 k46 W44 I44 G44 p44 => ?_)
            obtain ⟨q44, p44_0, p44_1, p44_2⟩ := p44
            have q44 := q44.symm
            subst q44
            have S44 : Now D TB cy (va_A (va_pl L E) sz) s L τ E_7 H45 k46 := ⟨W44, I44⟩
            refine lv_iadd hx hb dX10_digits_44 ?_
            refine lv_topi (fun v48 ev48 => ?_)
            obtain ⟨v49, ev49, tv49⟩ : ∃ v : Int32, (Int8.ofInt (48)).toInt32 = v ∧ v.toInt = 48 := ⟨_, rfl, by decide +kernel⟩
            refine lv_bipush hx hb dX10_digits_45 ev49 ?_
            refine lv_isub hx hb dX10_digits_47 ?_
            refine lv_topi (fun v50 ev50 => ?_)
            exact J48 v50 E_7 H45 k46 l_7 S44 F_7 (by have := fb_rng x2_7; omega) (by have := fb_rng x2_7; omega) (fun k hk => (z14 k hk)) (by have := fb_rng x2_7; omega) (lv_sub hl_7 [0, 1] rfl)
          · skip
            have tc41 := nu_nle c41
            refine lv_iload_n hx hb dX10_digits_32 rfl (lv_at hl_7 2 rfl) ?_
            refine lv_goto (tgt := 48) hx hb dX10_digits_33 (by decide) ?_
            exact J48 x2_7 E_7 H35 k36 l_7 S34 F_7 (by have := fb_rng x2_7; omega) (by have := fb_rng x2_7; omega) (fun k hk => (z14 k hk)) (by have := fb_rng x2_7; omega) (lv_sub hl_7 [0, 1] rfl)
  refine lv_aload_n hx hb dX10_digits_0 rfl (lv_at hl 0 rfl) ?_
  refine tr_geti Z.1 Z.2.2.2.1 S0.1 S0.2 ha0 ta0 rfl rfl (fun _ h => List.mem_cons_of_mem _ (List.mem_append_right _ h)) 22 (by decide) rfl (hts _ (List.mem_of_getElem? (i := 1) rfl)) dX10_digits_1 (fun v51 ev51 lv51 uv51 => ?_)
  have wv51 : v51 = (fi E a0 22) := ev51.symm.trans rfl
  have xv51 : v51.toInt = (fi E a0 22).toInt := by rw [wv51]
  refine lv_istore_n (lv' := [(1, .int v51), (0, .ref a0)]) hx hb dX10_digits_4 rfl hl (by decide) rfl (fun l52 hl53 => ?_)
  obtain ⟨v54, ev54, tv54⟩ : ∃ v : Int32, Int32.ofInt (0) = v ∧ v.toInt = 0 := ⟨_, rfl, by decide +kernel⟩
  refine lv_iconst hx hb dX10_digits_5 ev54 ?_
  refine lv_istore_n (lv' := [(2, .int v54), (1, .int v51), (0, .ref a0)]) hx hb dX10_digits_6 rfl hl53 (by decide) rfl (fun l55 hl56 => ?_)
  exact J7 _ v51 v54 E s.heap [] l55 S0 F0_ (by omega) (by omega) (fun k hk => ((fun k hk => rfl) k hk)) (by rw [ev51]; omega) (Nat.lt_succ_self _) (lv_sub hl56 [2, 1, 0] rfl)

set_option maxRecDepth 20000 in
theorem ggX10_boards_X10_in : GoodIn wsX10_boards wsX10_in := goodIn_r _ [10] (by decide +kernel) (by decide +kernel)
set_option maxRecDepth 20000 in
theorem gX10_boards_X10_in : GoodIn wsX10_boards (wsV RX10 123 RX10 yX10_in wsX10_in) := goodIn_app (goodIn_of _ (by decide +kernel)) ggX10_boards_X10_in
set_option maxRecDepth 20000 in
theorem ggX10_boards_X10_no : GoodIn wsX10_boards wsX10_no := goodIn_r _ [14, 15, 16, 21, 22, 23, 24, 25, 26, 27, 28, 29, 30, 31, 32, 33, 34, 35, 36, 37, 38, 39, 40, 41, 42, 43, 44, 45, 46, 47, 48, 49, 50, 51, 52, 53, 54, 55, 56, 57, 58, 59, 60, 61, 62, 63, 64, 65, 66, 67, 68] (by decide +kernel) (by decide +kernel)
set_option maxRecDepth 20000 in
theorem gX10_boards_X10_no : GoodIn wsX10_boards (wsV RX10 144 RX10 yX10_no wsX10_no) := goodIn_app (goodIn_of _ (by decide +kernel)) ggX10_boards_X10_no
set_option maxRecDepth 20000 in
theorem ggX10_boards_X10_good : GoodIn wsX10_boards wsX10_good := goodIn_r _ [20, 15, 16, 21, 22, 23, 24, 25, 26, 27, 28, 29, 30, 31, 32, 33, 34, 35, 36, 37, 38, 39, 40, 41, 42, 43, 44, 45, 46, 47, 48, 49, 50, 51, 52, 53, 54, 55, 56, 57, 58, 59, 60, 61, 62, 63, 64, 65, 66, 67, 68] (by decide +kernel) (by decide +kernel)
set_option maxRecDepth 20000 in
theorem gX10_boards_X10_good : GoodIn wsX10_boards (wsV RX10 106 RX10 yX10_good wsX10_good) := goodIn_app (goodIn_of _ (by decide +kernel)) ggX10_boards_X10_good
theorem dX10_boards_0 : decode cX10_boards 0 = .ok (.aload_n 0, 1) := by decide +kernel
theorem dX10_boards_1 : decode cX10_boards 1 = .ok (.iconst 0, 1) := by decide +kernel
theorem dX10_boards_2 : decode cX10_boards 2 = .ok (.putfield 97, 3) := by decide +kernel
theorem dX10_boards_5 : decode cX10_boards 5 = .ok (.aload_n 0, 1) := by decide +kernel
theorem dX10_boards_6 : decode cX10_boards 6 = .ok (.iload_n 1, 1) := by decide +kernel
theorem dX10_boards_7 : decode cX10_boards 7 = .ok (.iconst 1, 1) := by decide +kernel
theorem dX10_boards_8 : decode cX10_boards 8 = .ok (.sipush 10000, 3) := by decide +kernel
theorem dX10_boards_11 : decode cX10_boards 11 = .ok (.invokevirtual 123, 3) := by decide +kernel
theorem dX10_boards_14 : decode cX10_boards 14 = .ok (.ifCond .ne 9, 3) := by decide +kernel
theorem dX10_boards_17 : decode cX10_boards 17 = .ok (.aload_n 0, 1) := by decide +kernel
theorem dX10_boards_18 : decode cX10_boards 18 = .ok (.iconst 1, 1) := by decide +kernel
theorem dX10_boards_19 : decode cX10_boards 19 = .ok (.invokevirtual 144, 3) := by decide +kernel
theorem dX10_boards_22 : decode cX10_boards 22 = .ok (.ireturn, 1) := by decide +kernel
theorem dX10_boards_23 : decode cX10_boards 23 = .ok (.aload_n 0, 1) := by decide +kernel
theorem dX10_boards_24 : decode cX10_boards 24 = .ok (.invokevirtual 106, 3) := by decide +kernel
theorem dX10_boards_27 : decode cX10_boards 27 = .ok (.iconst 0, 1) := by decide +kernel
theorem dX10_boards_28 : decode cX10_boards 28 = .ok (.istore_n 2, 1) := by decide +kernel
theorem dX10_boards_29 : decode cX10_boards 29 = .ok (.iload_n 2, 1) := by decide +kernel
theorem dX10_boards_30 : decode cX10_boards 30 = .ok (.aload_n 0, 1) := by decide +kernel
theorem dX10_boards_31 : decode cX10_boards 31 = .ok (.getfield 141, 3) := by decide +kernel
theorem dX10_boards_34 : decode cX10_boards 34 = .ok (.if_icmp .ge 22, 3) := by decide +kernel
theorem dX10_boards_37 : decode cX10_boards 37 = .ok (.aload_n 0, 1) := by decide +kernel
theorem dX10_boards_38 : decode cX10_boards 38 = .ok (.getfield 85, 3) := by decide +kernel
theorem dX10_boards_41 : decode cX10_boards 41 = .ok (.iload_n 2, 1) := by decide +kernel
theorem dX10_boards_42 : decode cX10_boards 42 = .ok (.iaload, 1) := by decide +kernel
theorem dX10_boards_43 : decode cX10_boards 43 = .ok (.iload_n 1, 1) := by decide +kernel
theorem dX10_boards_44 : decode cX10_boards 44 = .ok (.if_icmp .le 6, 3) := by decide +kernel
theorem dX10_boards_47 : decode cX10_boards 47 = .ok (.bipush (-2), 2) := by decide +kernel
theorem dX10_boards_49 : decode cX10_boards 49 = .ok (.ireturn, 1) := by decide +kernel
theorem dX10_boards_50 : decode cX10_boards 50 = .ok (.iinc 2 1, 3) := by decide +kernel
theorem dX10_boards_53 : decode cX10_boards 53 = .ok (.goto (-24), 3) := by decide +kernel
theorem dX10_boards_56 : decode cX10_boards 56 = .ok (.aload_n 0, 1) := by decide +kernel
theorem dX10_boards_57 : decode cX10_boards 57 = .ok (.getfield 88, 3) := by decide +kernel
theorem dX10_boards_60 : decode cX10_boards 60 = .ok (.iconst 0, 1) := by decide +kernel
theorem dX10_boards_61 : decode cX10_boards 61 = .ok (.iconst 0, 1) := by decide +kernel
theorem dX10_boards_62 : decode cX10_boards 62 = .ok (.iastore, 1) := by decide +kernel
theorem dX10_boards_63 : decode cX10_boards 63 = .ok (.aload_n 0, 1) := by decide +kernel
theorem dX10_boards_64 : decode cX10_boards 64 = .ok (.getfield 91, 3) := by decide +kernel
theorem dX10_boards_67 : decode cX10_boards 67 = .ok (.iconst 0, 1) := by decide +kernel
theorem dX10_boards_68 : decode cX10_boards 68 = .ok (.iload_n 1, 1) := by decide +kernel
theorem dX10_boards_69 : decode cX10_boards 69 = .ok (.iastore, 1) := by decide +kernel
theorem dX10_boards_70 : decode cX10_boards 70 = .ok (.iconst 1, 1) := by decide +kernel
theorem dX10_boards_71 : decode cX10_boards 71 = .ok (.istore_n 2, 1) := by decide +kernel
theorem dX10_boards_72 : decode cX10_boards 72 = .ok (.iload_n 2, 1) := by decide +kernel
theorem dX10_boards_73 : decode cX10_boards 73 = .ok (.iconst 1, 1) := by decide +kernel
theorem dX10_boards_74 : decode cX10_boards 74 = .ok (.aload_n 0, 1) := by decide +kernel
theorem dX10_boards_75 : decode cX10_boards 75 = .ok (.getfield 141, 3) := by decide +kernel
theorem dX10_boards_78 : decode cX10_boards 78 = .ok (.ishl, 1) := by decide +kernel
theorem dX10_boards_79 : decode cX10_boards 79 = .ok (.if_icmp .ge 191, 3) := by decide +kernel
theorem dX10_boards_82 : decode cX10_boards 82 = .ok (.aload_n 0, 1) := by decide +kernel
theorem dX10_boards_83 : decode cX10_boards 83 = .ok (.getfield 88, 3) := by decide +kernel
theorem dX10_boards_86 : decode cX10_boards 86 = .ok (.iload_n 2, 1) := by decide +kernel
theorem dX10_boards_87 : decode cX10_boards 87 = .ok (.bipush 100, 2) := by decide +kernel
theorem dX10_boards_89 : decode cX10_boards 89 = .ok (.iastore, 1) := by decide +kernel
theorem dX10_boards_90 : decode cX10_boards 90 = .ok (.aload_n 0, 1) := by decide +kernel
theorem dX10_boards_91 : decode cX10_boards 91 = .ok (.getfield 91, 3) := by decide +kernel
theorem dX10_boards_94 : decode cX10_boards 94 = .ok (.iload_n 2, 1) := by decide +kernel
theorem dX10_boards_95 : decode cX10_boards 95 = .ok (.iconst 0, 1) := by decide +kernel
theorem dX10_boards_96 : decode cX10_boards 96 = .ok (.iastore, 1) := by decide +kernel
theorem dX10_boards_97 : decode cX10_boards 97 = .ok (.iconst 0, 1) := by decide +kernel
theorem dX10_boards_98 : decode cX10_boards 98 = .ok (.istore_n 3, 1) := by decide +kernel
theorem dX10_boards_99 : decode cX10_boards 99 = .ok (.iload_n 3, 1) := by decide +kernel
theorem dX10_boards_100 : decode cX10_boards 100 = .ok (.aload_n 0, 1) := by decide +kernel
theorem dX10_boards_101 : decode cX10_boards 101 = .ok (.getfield 141, 3) := by decide +kernel
theorem dX10_boards_104 : decode cX10_boards 104 = .ok (.if_icmp .ge 160, 3) := by decide +kernel
theorem dX10_boards_107 : decode cX10_boards 107 = .ok (.iload_n 2, 1) := by decide +kernel
theorem dX10_boards_108 : decode cX10_boards 108 = .ok (.iload_n 3, 1) := by decide +kernel
theorem dX10_boards_109 : decode cX10_boards 109 = .ok (.ishr, 1) := by decide +kernel
theorem dX10_boards_110 : decode cX10_boards 110 = .ok (.iconst 1, 1) := by decide +kernel
theorem dX10_boards_111 : decode cX10_boards 111 = .ok (.iand, 1) := by decide +kernel
theorem dX10_boards_112 : decode cX10_boards 112 = .ok (.ifCond .ne 6, 3) := by decide +kernel
theorem dX10_boards_115 : decode cX10_boards 115 = .ok (.goto 143, 3) := by decide +kernel
theorem dX10_boards_118 : decode cX10_boards 118 = .ok (.iload_n 2, 1) := by decide +kernel
theorem dX10_boards_119 : decode cX10_boards 119 = .ok (.iconst 1, 1) := by decide +kernel
theorem dX10_boards_120 : decode cX10_boards 120 = .ok (.iload_n 3, 1) := by decide +kernel
theorem dX10_boards_121 : decode cX10_boards 121 = .ok (.ishl, 1) := by decide +kernel
theorem dX10_boards_122 : decode cX10_boards 122 = .ok (.ixor, 1) := by decide +kernel
theorem dX10_boards_123 : decode cX10_boards 123 = .ok (.istore 4, 2) := by decide +kernel
theorem dX10_boards_125 : decode cX10_boards 125 = .ok (.aload_n 0, 1) := by decide +kernel
theorem dX10_boards_126 : decode cX10_boards 126 = .ok (.getfield 91, 3) := by decide +kernel
theorem dX10_boards_129 : decode cX10_boards 129 = .ok (.iload 4, 2) := by decide +kernel
theorem dX10_boards_131 : decode cX10_boards 131 = .ok (.iaload, 1) := by decide +kernel
theorem dX10_boards_132 : decode cX10_boards 132 = .ok (.aload_n 0, 1) := by decide +kernel
theorem dX10_boards_133 : decode cX10_boards 133 = .ok (.getfield 85, 3) := by decide +kernel
theorem dX10_boards_136 : decode cX10_boards 136 = .ok (.iload_n 3, 1) := by decide +kernel
theorem dX10_boards_137 : decode cX10_boards 137 = .ok (.iaload, 1) := by decide +kernel
theorem dX10_boards_138 : decode cX10_boards 138 = .ok (.iadd, 1) := by decide +kernel
theorem dX10_boards_139 : decode cX10_boards 139 = .ok (.iload_n 1, 1) := by decide +kernel
theorem dX10_boards_140 : decode cX10_boards 140 = .ok (.if_icmp .gt 7, 3) := by decide +kernel
theorem dX10_boards_143 : decode cX10_boards 143 = .ok (.iconst 1, 1) := by decide +kernel
theorem dX10_boards_144 : decode cX10_boards 144 = .ok (.goto 4, 3) := by decide +kernel
theorem dX10_boards_147 : decode cX10_boards 147 = .ok (.iconst 0, 1) := by decide +kernel
theorem dX10_boards_148 : decode cX10_boards 148 = .ok (.istore 5, 2) := by decide +kernel
theorem dX10_boards_150 : decode cX10_boards 150 = .ok (.iload 5, 2) := by decide +kernel
theorem dX10_boards_152 : decode cX10_boards 152 = .ok (.ifCond .eq 13, 3) := by decide +kernel
theorem dX10_boards_155 : decode cX10_boards 155 = .ok (.aload_n 0, 1) := by decide +kernel
theorem dX10_boards_156 : decode cX10_boards 156 = .ok (.getfield 88, 3) := by decide +kernel
theorem dX10_boards_159 : decode cX10_boards 159 = .ok (.iload 4, 2) := by decide +kernel
theorem dX10_boards_161 : decode cX10_boards 161 = .ok (.iaload, 1) := by decide +kernel
theorem dX10_boards_162 : decode cX10_boards 162 = .ok (.goto 12, 3) := by decide +kernel
theorem dX10_boards_165 : decode cX10_boards 165 = .ok (.aload_n 0, 1) := by decide +kernel
theorem dX10_boards_166 : decode cX10_boards 166 = .ok (.getfield 88, 3) := by decide +kernel
theorem dX10_boards_169 : decode cX10_boards 169 = .ok (.iload 4, 2) := by decide +kernel
theorem dX10_boards_171 : decode cX10_boards 171 = .ok (.iaload, 1) := by decide +kernel
theorem dX10_boards_172 : decode cX10_boards 172 = .ok (.iconst 1, 1) := by decide +kernel
theorem dX10_boards_173 : decode cX10_boards 173 = .ok (.iadd, 1) := by decide +kernel
theorem dX10_boards_174 : decode cX10_boards 174 = .ok (.istore 6, 2) := by decide +kernel
theorem dX10_boards_176 : decode cX10_boards 176 = .ok (.iload 5, 2) := by decide +kernel
theorem dX10_boards_178 : decode cX10_boards 178 = .ok (.ifCond .eq 20, 3) := by decide +kernel
theorem dX10_boards_181 : decode cX10_boards 181 = .ok (.aload_n 0, 1) := by decide +kernel
theorem dX10_boards_182 : decode cX10_boards 182 = .ok (.getfield 91, 3) := by decide +kernel
theorem dX10_boards_185 : decode cX10_boards 185 = .ok (.iload 4, 2) := by decide +kernel
theorem dX10_boards_187 : decode cX10_boards 187 = .ok (.iaload, 1) := by decide +kernel
theorem dX10_boards_188 : decode cX10_boards 188 = .ok (.aload_n 0, 1) := by decide +kernel
theorem dX10_boards_189 : decode cX10_boards 189 = .ok (.getfield 85, 3) := by decide +kernel
theorem dX10_boards_192 : decode cX10_boards 192 = .ok (.iload_n 3, 1) := by decide +kernel
theorem dX10_boards_193 : decode cX10_boards 193 = .ok (.iaload, 1) := by decide +kernel
theorem dX10_boards_194 : decode cX10_boards 194 = .ok (.iadd, 1) := by decide +kernel
theorem dX10_boards_195 : decode cX10_boards 195 = .ok (.goto 9, 3) := by decide +kernel
theorem dX10_boards_198 : decode cX10_boards 198 = .ok (.aload_n 0, 1) := by decide +kernel
theorem dX10_boards_199 : decode cX10_boards 199 = .ok (.getfield 85, 3) := by decide +kernel
theorem dX10_boards_202 : decode cX10_boards 202 = .ok (.iload_n 3, 1) := by decide +kernel
theorem dX10_boards_203 : decode cX10_boards 203 = .ok (.iaload, 1) := by decide +kernel
theorem dX10_boards_204 : decode cX10_boards 204 = .ok (.istore 7, 2) := by decide +kernel
theorem dX10_boards_206 : decode cX10_boards 206 = .ok (.iload 6, 2) := by decide +kernel
theorem dX10_boards_208 : decode cX10_boards 208 = .ok (.aload_n 0, 1) := by decide +kernel
theorem dX10_boards_209 : decode cX10_boards 209 = .ok (.getfield 88, 3) := by decide +kernel
theorem dX10_boards_212 : decode cX10_boards 212 = .ok (.iload_n 2, 1) := by decide +kernel
theorem dX10_boards_213 : decode cX10_boards 213 = .ok (.iaload, 1) := by decide +kernel
theorem dX10_boards_214 : decode cX10_boards 214 = .ok (.if_icmp .gt 44, 3) := by decide +kernel
theorem dX10_boards_217 : decode cX10_boards 217 = .ok (.iload 6, 2) := by decide +kernel
theorem dX10_boards_219 : decode cX10_boards 219 = .ok (.aload_n 0, 1) := by decide +kernel
theorem dX10_boards_220 : decode cX10_boards 220 = .ok (.getfield 88, 3) := by decide +kernel
theorem dX10_boards_223 : decode cX10_boards 223 = .ok (.iload_n 2, 1) := by decide +kernel
theorem dX10_boards_224 : decode cX10_boards 224 = .ok (.iaload, 1) := by decide +kernel
theorem dX10_boards_225 : decode cX10_boards 225 = .ok (.if_icmp .ne 17, 3) := by decide +kernel
theorem dX10_boards_228 : decode cX10_boards 228 = .ok (.iload 7, 2) := by decide +kernel
theorem dX10_boards_230 : decode cX10_boards 230 = .ok (.aload_n 0, 1) := by decide +kernel
theorem dX10_boards_231 : decode cX10_boards 231 = .ok (.getfield 91, 3) := by decide +kernel
theorem dX10_boards_234 : decode cX10_boards 234 = .ok (.iload_n 2, 1) := by decide +kernel
theorem dX10_boards_235 : decode cX10_boards 235 = .ok (.iaload, 1) := by decide +kernel
theorem dX10_boards_236 : decode cX10_boards 236 = .ok (.if_icmp .lt 6, 3) := by decide +kernel
theorem dX10_boards_239 : decode cX10_boards 239 = .ok (.goto 19, 3) := by decide +kernel
theorem dX10_boards_242 : decode cX10_boards 242 = .ok (.aload_n 0, 1) := by decide +kernel
theorem dX10_boards_243 : decode cX10_boards 243 = .ok (.getfield 88, 3) := by decide +kernel
theorem dX10_boards_246 : decode cX10_boards 246 = .ok (.iload_n 2, 1) := by decide +kernel
theorem dX10_boards_247 : decode cX10_boards 247 = .ok (.iload 6, 2) := by decide +kernel
theorem dX10_boards_249 : decode cX10_boards 249 = .ok (.iastore, 1) := by decide +kernel
theorem dX10_boards_250 : decode cX10_boards 250 = .ok (.aload_n 0, 1) := by decide +kernel
theorem dX10_boards_251 : decode cX10_boards 251 = .ok (.getfield 91, 3) := by decide +kernel
theorem dX10_boards_254 : decode cX10_boards 254 = .ok (.iload_n 2, 1) := by decide +kernel
theorem dX10_boards_255 : decode cX10_boards 255 = .ok (.iload 7, 2) := by decide +kernel
theorem dX10_boards_257 : decode cX10_boards 257 = .ok (.iastore, 1) := by decide +kernel
theorem dX10_boards_258 : decode cX10_boards 258 = .ok (.iinc 3 1, 3) := by decide +kernel
theorem dX10_boards_261 : decode cX10_boards 261 = .ok (.goto (-162), 3) := by decide +kernel
theorem dX10_boards_264 : decode cX10_boards 264 = .ok (.iinc 2 1, 3) := by decide +kernel
theorem dX10_boards_267 : decode cX10_boards 267 = .ok (.goto (-195), 3) := by decide +kernel
theorem dX10_boards_270 : decode cX10_boards 270 = .ok (.aload_n 0, 1) := by decide +kernel
theorem dX10_boards_271 : decode cX10_boards 271 = .ok (.getfield 88, 3) := by decide +kernel
theorem dX10_boards_274 : decode cX10_boards 274 = .ok (.iconst 1, 1) := by decide +kernel
theorem dX10_boards_275 : decode cX10_boards 275 = .ok (.aload_n 0, 1) := by decide +kernel
theorem dX10_boards_276 : decode cX10_boards 276 = .ok (.getfield 141, 3) := by decide +kernel
theorem dX10_boards_279 : decode cX10_boards 279 = .ok (.ishl, 1) := by decide +kernel
theorem dX10_boards_280 : decode cX10_boards 280 = .ok (.iconst 1, 1) := by decide +kernel
theorem dX10_boards_281 : decode cX10_boards 281 = .ok (.isub, 1) := by decide +kernel
theorem dX10_boards_282 : decode cX10_boards 282 = .ok (.iaload, 1) := by decide +kernel
theorem dX10_boards_283 : decode cX10_boards 283 = .ok (.ireturn, 1) := by decide +kernel
set_option maxHeartbeats 4000000 in
set_option maxRecDepth 100000 in
theorem k_X10_boards (l : Launch) (D : va_G) (cy : Nat → ClassId) {L : List Nat} {τ : Nat → Ro} {E : Ec} (hI : Inv TB cy L τ E) {a0 : Nat} (ha0 : a0 ∈ L) (ta0 : τ a0 = (11, 0)) (a1 : Int32) : CtI l yX10_boards wsX10_boards { frames := 1, cells := 0, slots := 0, locals := 23 } D TB cy L τ E [.ref a0, .int a1] (inW [(11, 0), (84, 0), (85, 0)]) (fun r E' => (∀ k : Nat, k ∉ ([3, 4, 6] : List Nat) → fi E' a0 k = fi E a0 k)) := by
  intro sz
  refine sta (cc := cX10_boards) (maxL := 8) hI (by decide) rfl (Nat.le_of_ble_eq_true rfl) (fun p e s m args below meth c ls hsz Z S0 hl => ?_)
  have hx := Z.1.1
  have hb := Z.1.2.1
  have hts := Z.1.2.2.2.2
  have F0_ : Fr L τ (inW [(11, 0), (84, 0), (85, 0)]) E E := Fr.refl
  have hl : lv_has ls 8 [(0, .ref a0), (1, .int a1)] := hl
  generalize hQ : MQ below _ args s 0 0 _ = QQ
  have J72 : ∀ (n : Nat) (x2_72 : Int32) (E_72 : Ec) (H_72 : Heap) (k_72 : List Loc) (l_72 : Array Slot), Now D TB cy (va_A (va_pl L E) sz) s L τ E_72 H_72 k_72 → Fr L τ (inW [(11, 0), (84, 0), (85, 0)]) E E_72 → (1 ≤ a1.toInt) → (a1.toInt ≤ 10000) → (1 ≤ x2_72.toInt) → (x2_72.toInt ≤ 4096) → (∀ k : Nat, k ∉ ([3, 4, 6] : List Nat) → fi E_72 a0 k = fi E a0 k) → (4096 - x2_72.toInt).toNat < n → lv_has l_72 8 [(0, .ref a0), (1, .int a1), (2, .int x2_72)] → W p l e { frames := 1, cells := 0, slots := 0, locals := 23 } s m args below meth c H_72 k_72 0 0 QQ (F0 m 72 l_72 []) := by
    intro n
    induction n with
    | zero => intro x2_72 E_72 H_72 k_72 l_72 S_72 F_72 z1 z2 z3 z4 z5 hm hl_72; exact absurd hm (Nat.not_lt_zero _)
    | succ n ih =>
      intro x2_72 E_72 H_72 k_72 l_72 S_72 F_72 z1 z2 z3 z4 z5 hm hl_72
      have ih_72 := ih
      have J99 : ∀ (n : Nat) (x3_99 : Int32) (E_99 : Ec) (H_99 : Heap) (k_99 : List Loc) (l_99 : Array Slot), Now D TB cy (va_A (va_pl L E) sz) s L τ E_99 H_99 k_99 → Fr L τ (inW [(11, 0), (84, 0), (85, 0)]) E E_99 → (1 ≤ a1.toInt) → (a1.toInt ≤ 10000) → (1 ≤ x2_72.toInt) → (x2_72.toInt ≤ 4095) → (0 ≤ x3_99.toInt) → (x3_99.toInt ≤ 12) → (∀ k : Nat, k ∉ ([3, 4, 6] : List Nat) → fi E_99 a0 k = fi E a0 k) → (12 - x3_99.toInt).toNat < n → lv_has l_99 8 [(0, .ref a0), (1, .int a1), (2, .int x2_72), (3, .int x3_99)] → W p l e { frames := 1, cells := 0, slots := 0, locals := 23 } s m args below meth c H_99 k_99 0 0 QQ (F0 m 99 l_99 []) := by
        intro n
        induction n with
        | zero => intro x3_99 E_99 H_99 k_99 l_99 S_99 F_99 z6 z7 z8 z9 z10 z11 z12 hm hl_99; exact absurd hm (Nat.not_lt_zero _)
        | succ n ih =>
          intro x3_99 E_99 H_99 k_99 l_99 S_99 F_99 z6 z7 z8 z9 z10 z11 z12 hm hl_99
          have ih_99 := ih
          have J258 : ∀  (E_258 : Ec) (H_258 : Heap) (k_258 : List Loc) (l_258 : Array Slot), Now D TB cy (va_A (va_pl L E) sz) s L τ E_258 H_258 k_258 → Fr L τ (inW [(11, 0), (84, 0), (85, 0)]) E E_258 → (1 ≤ a1.toInt) → (a1.toInt ≤ 10000) → (1 ≤ x2_72.toInt) → (x2_72.toInt ≤ 4095) → (0 ≤ x3_99.toInt) → (x3_99.toInt ≤ 11) → (∀ k : Nat, k ∉ ([3, 4, 6] : List Nat) → fi E_258 a0 k = fi E a0 k) → lv_has l_258 8 [(0, .ref a0), (1, .int a1), (2, .int x2_72), (3, .int x3_99)] → W p l e { frames := 1, cells := 0, slots := 0, locals := 23 } s m args below meth c H_258 k_258 0 0 QQ (F0 m 258 l_258 []) := by
            intro  E_258 H_258 k_258 l_258 S_258 F_258 z13 z14 z15 z16 z17 z18 z19 hl_258
            obtain ⟨v20, ev20⟩ : ∃ y : Int32, x3_99 + Int32.ofInt (1) = y := ⟨_, rfl⟩
            have tv20 : v20.toInt = x3_99.toInt + (1) := by rw [← ev20]; exact (fb_addI (by rw [show (Int32.ofInt (1)).toInt = 1 from by decide +kernel]; omega) (by rw [show (Int32.ofInt (1)).toInt = 1 from by decide +kernel]; omega)).trans (by rw [show (Int32.ofInt (1)).toInt = 1 from by decide +kernel])
            refine lv_iinc (v := v20) (lv' := [(3, .int v20), (0, .ref a0), (1, .int a1), (2, .int x2_72)]) hx hb dX10_boards_258 hl_258 (k := 3) rfl ev20 (by decide) rfl (fun l21 hl22 => ?_)
            refine lv_goto (tgt := 99) hx hb dX10_boards_261 (by decide) ?_
            exact ih_99 v20 E_258 H_258 k_258 l21 S_258 F_258 (by omega) (by omega) (by omega) (by omega) (by omega) (by omega) (fun k hk => (z19 k hk)) (by omega) (lv_sub hl22 [1, 2, 3, 0] rfl)
          have J242 : ∀ (x6_242 : Int32) (x7_242 : Int32) (E_242 : Ec) (H_242 : Heap) (k_242 : List Loc) (l_242 : Array Slot), Now D TB cy (va_A (va_pl L E) sz) s L τ E_242 H_242 k_242 → Fr L τ (inW [(11, 0), (84, 0), (85, 0)]) E E_242 → (1 ≤ a1.toInt) → (a1.toInt ≤ 10000) → (1 ≤ x2_72.toInt) → (x2_72.toInt ≤ 4095) → (0 ≤ x3_99.toInt) → (x3_99.toInt ≤ 11) → (∀ k : Nat, k ∉ ([3, 4, 6] : List Nat) → fi E_242 a0 k = fi E a0 k) → lv_has l_242 8 [(0, .ref a0), (1, .int a1), (2, .int x2_72), (3, .int x3_99), (6, .int x6_242), (7, .int x7_242)] → W p l e { frames := 1, cells := 0, slots := 0, locals := 23 } s m args below meth c H_242 k_242 0 0 QQ (F0 m 242 l_242 []) := by
            intro x6_242 x7_242 E_242 H_242 k_242 l_242 S_242 F_242 z23 z24 z25 z26 z27 z28 z29 hl_242
            refine lv_aload_n hx hb dX10_boards_242 rfl (lv_at hl_242 0 rfl) ?_
            refine tr_getr Z.1 Z.2.2.2.1 S_242.1 S_242.2 ha0 ta0 rfl rfl (fun _ h => List.mem_cons_of_mem _ (List.mem_append_right _ h)) 43 (by decide) rfl (hts _ (List.mem_of_getElem? (i := 4) rfl)) dX10_boards_243 (fun q30 eq30 hq30 tq30 => ?_)
            have tq30 : τ q30 = (84, 0) := tq30
            refine lv_iload_n hx hb dX10_boards_246 rfl (lv_at hl_242 2 rfl) ?_
            refine lv_iload hx hb dX10_boards_247 (lv_at hl_242 4 rfl) ?_
            refine tr_iast Z.1 Z.2.2.2.1 S_242.1 S_242.2 hq30 tq30 rfl (by omega) (by omega) (by have := fb_rng x6_242; omega) (by have := fb_rng x6_242; omega) dX10_boards_249 (fun E31 H32 k33 W31 I31 P31 => ?_)
            have S31 : Now D TB cy (va_A (va_pl L E) sz) s L τ E31 H32 k33 := ⟨W31, I31⟩
            have F31 : Fr L τ (inW [(11, 0), (84, 0), (85, 0)]) E E31 := Fr.set F_242 P31 tq30 rfl
            refine lv_aload_n hx hb dX10_boards_250 rfl (lv_at hl_242 0 rfl) ?_
            refine tr_getr Z.1 Z.2.2.2.1 S31.1 S31.2 ha0 ta0 rfl rfl (fun _ h => List.mem_cons_of_mem _ (List.mem_append_right _ h)) 44 (by decide) rfl (hts _ (List.mem_of_getElem? (i := 5) rfl)) dX10_boards_251 (fun q34 eq34 hq34 tq34 => ?_)
            have tq34 : τ q34 = (85, 0) := tq34
            refine lv_iload_n hx hb dX10_boards_254 rfl (lv_at hl_242 2 rfl) ?_
            refine lv_iload hx hb dX10_boards_255 (lv_at hl_242 5 rfl) ?_
            refine tr_iast Z.1 Z.2.2.2.1 S31.1 S31.2 hq34 tq34 rfl (by omega) (by omega) (by have := fb_rng x7_242; omega) (by have := fb_rng x7_242; omega) dX10_boards_257 (fun E35 H36 k37 W35 I35 P35 => ?_)
            have S35 : Now D TB cy (va_A (va_pl L E) sz) s L τ E35 H36 k37 := ⟨W35, I35⟩
            have F35 : Fr L τ (inW [(11, 0), (84, 0), (85, 0)]) E E35 := Fr.set F31 P35 tq34 rfl
            exact J258 E35 H36 k37 l_242 S35 F35 (by have := fb_rng x6_242; have := fb_rng x7_242; omega) (by have := fb_rng x6_242; have := fb_rng x7_242; omega) (by have := fb_rng x6_242; have := fb_rng x7_242; omega) (by have := fb_rng x6_242; have := fb_rng x7_242; omega) (by have := fb_rng x6_242; have := fb_rng x7_242; omega) (by have := fb_rng x6_242; have := fb_rng x7_242; omega) (fun k hk => ((fi_set P35 (ne_ro ta0 tq34 (by decide))).trans ((fi_set P31 (ne_ro ta0 tq30 (by decide))).trans (z29 k hk)))) (lv_sub hl_242 [0, 1, 2, 3] rfl)
          have J204 : ∀ (x6_204 : Int32) (y0_204 : Int32) (E_204 : Ec) (H_204 : Heap) (k_204 : List Loc) (l_204 : Array Slot), Now D TB cy (va_A (va_pl L E) sz) s L τ E_204 H_204 k_204 → Fr L τ (inW [(11, 0), (84, 0), (85, 0)]) E E_204 → (1 ≤ a1.toInt) → (a1.toInt ≤ 10000) → (1 ≤ x2_72.toInt) → (x2_72.toInt ≤ 4095) → (0 ≤ x3_99.toInt) → (x3_99.toInt ≤ 11) → (∀ k : Nat, k ∉ ([3, 4, 6] : List Nat) → fi E_204 a0 k = fi E a0 k) → lv_has l_204 8 [(0, .ref a0), (1, .int a1), (2, .int x2_72), (3, .int x3_99), (6, .int x6_204)] → W p l e { frames := 1, cells := 0, slots := 0, locals := 23 } s m args below meth c H_204 k_204 0 0 QQ (F0 m 204 l_204 [.int y0_204]) := by
            intro x6_204 y0_204 E_204 H_204 k_204 l_204 S_204 F_204 z38 z39 z40 z41 z42 z43 z44 hl_204
            refine lv_istore (lv' := [(7, .int y0_204), (0, .ref a0), (1, .int a1), (2, .int x2_72), (3, .int x3_99), (6, .int x6_204)]) hx hb dX10_boards_204 hl_204 (by decide) rfl (fun l45 hl46 => ?_)
            refine lv_iload hx hb dX10_boards_206 (lv_at hl46 5 rfl) ?_
            refine lv_aload_n hx hb dX10_boards_208 rfl (lv_at hl46 1 rfl) ?_
            refine tr_getr Z.1 Z.2.2.2.1 S_204.1 S_204.2 ha0 ta0 rfl rfl (fun _ h => List.mem_cons_of_mem _ (List.mem_append_right _ h)) 43 (by decide) rfl (hts _ (List.mem_of_getElem? (i := 4) rfl)) dX10_boards_209 (fun q47 eq47 hq47 tq47 => ?_)
            have tq47 : τ q47 = (84, 0) := tq47
            refine lv_iload_n hx hb dX10_boards_212 rfl (lv_at hl46 3 rfl) ?_
            refine tr_iald Z.1 Z.2.2.2.1 S_204.1 S_204.2 hq47 tq47 rfl (by omega) (by omega) dX10_boards_213 (fun v48 ev48 lv48 uv48 => ?_)
            refine lv_icmp_gt (tgt := 258) hx hb dX10_boards_214 (by decide) (fun c49 => ?_) (fun c49 => ?_)
            · skip
              have tc49 := nu_lt c49
              exact J258 E_204 H_204 k_204 l45 S_204 F_204 (by have := fb_rng y0_204; have := fb_rng x6_204; omega) (by have := fb_rng y0_204; have := fb_rng x6_204; omega) (by have := fb_rng y0_204; have := fb_rng x6_204; omega) (by have := fb_rng y0_204; have := fb_rng x6_204; omega) (by have := fb_rng y0_204; have := fb_rng x6_204; omega) (by have := fb_rng y0_204; have := fb_rng x6_204; omega) (fun k hk => (z44 k hk)) (lv_sub hl46 [1, 2, 3, 4] rfl)
            · skip
              have tc49 := nu_nlt c49
              refine lv_iload hx hb dX10_boards_217 (lv_at hl46 5 rfl) ?_
              refine lv_aload_n hx hb dX10_boards_219 rfl (lv_at hl46 1 rfl) ?_
              refine tr_getr Z.1 Z.2.2.2.1 S_204.1 S_204.2 ha0 ta0 rfl rfl (fun _ h => List.mem_cons_of_mem _ (List.mem_append_right _ h)) 43 (by decide) rfl (hts _ (List.mem_of_getElem? (i := 4) rfl)) dX10_boards_220 (fun q50 eq50 hq50 tq50 => ?_)
              have tq50 : τ q50 = (84, 0) := tq50
              have uq50 : q47 = q50 := S_204.2.2.2.2 _ hq47 _ hq50 (tq47.trans tq50.symm) (by rw [tq47]; rfl)
              subst uq50
              refine lv_iload_n hx hb dX10_boards_223 rfl (lv_at hl46 3 rfl) ?_
              refine tr_iald Z.1 Z.2.2.2.1 S_204.1 S_204.2 hq47 tq47 rfl (by omega) (by omega) dX10_boards_224 (fun v51 ev51 lv51 uv51 => ?_)
              refine lv_icmp_ne (tgt := 242) hx hb dX10_boards_225 (by decide) (fun c52 => ?_) (fun c52 => ?_)
              · skip
                have tc52 := nu_ne c52
                exact J242 x6_204 y0_204 E_204 H_204 k_204 l45 S_204 F_204 (by have := fb_rng y0_204; have := fb_rng x6_204; omega) (by have := fb_rng y0_204; have := fb_rng x6_204; omega) (by have := fb_rng y0_204; have := fb_rng x6_204; omega) (by have := fb_rng y0_204; have := fb_rng x6_204; omega) (by have := fb_rng y0_204; have := fb_rng x6_204; omega) (by have := fb_rng y0_204; have := fb_rng x6_204; omega) (fun k hk => (z44 k hk)) (lv_sub hl46 [1, 2, 3, 4, 5, 0] rfl)
              · skip
                have tc52 := nu_eq c52
                refine lv_iload hx hb dX10_boards_228 (lv_at hl46 0 rfl) ?_
                refine lv_aload_n hx hb dX10_boards_230 rfl (lv_at hl46 1 rfl) ?_
                refine tr_getr Z.1 Z.2.2.2.1 S_204.1 S_204.2 ha0 ta0 rfl rfl (fun _ h => List.mem_cons_of_mem _ (List.mem_append_right _ h)) 44 (by decide) rfl (hts _ (List.mem_of_getElem? (i := 5) rfl)) dX10_boards_231 (fun q53 eq53 hq53 tq53 => ?_)
                have tq53 : τ q53 = (85, 0) := tq53
                refine lv_iload_n hx hb dX10_boards_234 rfl (lv_at hl46 3 rfl) ?_
                refine tr_iald Z.1 Z.2.2.2.1 S_204.1 S_204.2 hq53 tq53 rfl (by omega) (by omega) dX10_boards_235 (fun v54 ev54 lv54 uv54 => ?_)
                refine lv_icmp_lt (tgt := 242) hx hb dX10_boards_236 (by decide) (fun c55 => ?_) (fun c55 => ?_)
                · skip
                  have tc55 := nu_lt c55
                  exact J242 x6_204 y0_204 E_204 H_204 k_204 l45 S_204 F_204 (by have := fb_rng y0_204; have := fb_rng x6_204; omega) (by have := fb_rng y0_204; have := fb_rng x6_204; omega) (by have := fb_rng y0_204; have := fb_rng x6_204; omega) (by have := fb_rng y0_204; have := fb_rng x6_204; omega) (by have := fb_rng y0_204; have := fb_rng x6_204; omega) (by have := fb_rng y0_204; have := fb_rng x6_204; omega) (fun k hk => (z44 k hk)) (lv_sub hl46 [1, 2, 3, 4, 5, 0] rfl)
                · skip
                  have tc55 := nu_nlt c55
                  refine lv_goto (tgt := 258) hx hb dX10_boards_239 (by decide) ?_
                  exact J258 E_204 H_204 k_204 l45 S_204 F_204 (by have := fb_rng y0_204; have := fb_rng x6_204; omega) (by have := fb_rng y0_204; have := fb_rng x6_204; omega) (by have := fb_rng y0_204; have := fb_rng x6_204; omega) (by have := fb_rng y0_204; have := fb_rng x6_204; omega) (by have := fb_rng y0_204; have := fb_rng x6_204; omega) (by have := fb_rng y0_204; have := fb_rng x6_204; omega) (fun k hk => (z44 k hk)) (lv_sub hl46 [1, 2, 3, 4] rfl)
          have J174 : ∀ (x4_174 : Int32) (x5_174 : Int32) (y0_174 : Int32) (E_174 : Ec) (H_174 : Heap) (k_174 : List Loc) (l_174 : Array Slot), Now D TB cy (va_A (va_pl L E) sz) s L τ E_174 H_174 k_174 → Fr L τ (inW [(11, 0), (84, 0), (85, 0)]) E E_174 → (1 ≤ a1.toInt) → (a1.toInt ≤ 10000) → (1 ≤ x2_72.toInt) → (x2_72.toInt ≤ 4095) → (0 ≤ x3_99.toInt) → (x3_99.toInt ≤ 11) → (0 ≤ x4_174.toInt) → (x4_174.toInt ≤ 4095) → (0 ≤ x5_174.toInt) → (x5_174.toInt ≤ 1) → (∀ k : Nat, k ∉ ([3, 4, 6] : List Nat) → fi E_174 a0 k = fi E a0 k) → lv_has l_174 8 [(0, .ref a0), (1, .int a1), (2, .int x2_72), (3, .int x3_99), (4, .int x4_174), (5, .int x5_174)] → W p l e { frames := 1, cells := 0, slots := 0, locals := 23 } s m args below meth c H_174 k_174 0 0 QQ (F0 m 174 l_174 [.int y0_174]) := by
            intro x4_174 x5_174 y0_174 E_174 H_174 k_174 l_174 S_174 F_174 z56 z57 z58 z59 z60 z61 z62 z63 z64 z65 z66 hl_174
            refine lv_istore (lv' := [(6, .int y0_174), (0, .ref a0), (1, .int a1), (2, .int x2_72), (3, .int x3_99), (4, .int x4_174), (5, .int x5_174)]) hx hb dX10_boards_174 hl_174 (by decide) rfl (fun l67 hl68 => ?_)
            refine lv_iload hx hb dX10_boards_176 (lv_at hl68 6 rfl) ?_
            refine lv_if_eq (tgt := 198) hx hb dX10_boards_178 (by decide) (fun c69 => ?_) (fun c69 => ?_)
            · skip
              have tc69 := nu_eq c69
              have uc69 : (0 : Int32).toInt = 0 := rfl
              refine lv_aload_n hx hb dX10_boards_198 rfl (lv_at hl68 1 rfl) ?_
              refine tr_getr Z.1 Z.2.2.2.1 S_174.1 S_174.2 ha0 ta0 rfl rfl (fun _ h => List.mem_cons_of_mem _ (List.mem_append_right _ h)) 42 (by decide) rfl (hts _ (List.mem_of_getElem? (i := 3) rfl)) dX10_boards_199 (fun q70 eq70 hq70 tq70 => ?_)
              have tq70 : τ q70 = (83, 0) := tq70
              refine lv_iload_n hx hb dX10_boards_202 rfl (lv_at hl68 4 rfl) ?_
              refine tr_iald Z.1 Z.2.2.2.1 S_174.1 S_174.2 hq70 tq70 rfl (by omega) (by omega) dX10_boards_203 (fun v71 ev71 lv71 uv71 => ?_)
              exact J204 y0_174 v71 E_174 H_174 k_174 l67 S_174 F_174 (by have := fb_rng y0_174; omega) (by have := fb_rng y0_174; omega) (by have := fb_rng y0_174; omega) (by have := fb_rng y0_174; omega) (by have := fb_rng y0_174; omega) (by have := fb_rng y0_174; omega) (fun k hk => (z66 k hk)) (lv_sub hl68 [1, 2, 3, 4, 0] rfl)
            · skip
              have tc69 := nu_ne c69
              have uc69 : (0 : Int32).toInt = 0 := rfl
              refine lv_aload_n hx hb dX10_boards_181 rfl (lv_at hl68 1 rfl) ?_
              refine tr_getr Z.1 Z.2.2.2.1 S_174.1 S_174.2 ha0 ta0 rfl rfl (fun _ h => List.mem_cons_of_mem _ (List.mem_append_right _ h)) 44 (by decide) rfl (hts _ (List.mem_of_getElem? (i := 5) rfl)) dX10_boards_182 (fun q72 eq72 hq72 tq72 => ?_)
              have tq72 : τ q72 = (85, 0) := tq72
              refine lv_iload hx hb dX10_boards_185 (lv_at hl68 5 rfl) ?_
              refine tr_iald Z.1 Z.2.2.2.1 S_174.1 S_174.2 hq72 tq72 rfl (by omega) (by omega) dX10_boards_187 (fun v73 ev73 lv73 uv73 => ?_)
              refine lv_aload_n hx hb dX10_boards_188 rfl (lv_at hl68 1 rfl) ?_
              refine tr_getr Z.1 Z.2.2.2.1 S_174.1 S_174.2 ha0 ta0 rfl rfl (fun _ h => List.mem_cons_of_mem _ (List.mem_append_right _ h)) 42 (by decide) rfl (hts _ (List.mem_of_getElem? (i := 3) rfl)) dX10_boards_189 (fun q74 eq74 hq74 tq74 => ?_)
              have tq74 : τ q74 = (83, 0) := tq74
              refine lv_iload_n hx hb dX10_boards_192 rfl (lv_at hl68 4 rfl) ?_
              refine tr_iald Z.1 Z.2.2.2.1 S_174.1 S_174.2 hq74 tq74 rfl (by omega) (by omega) dX10_boards_193 (fun v75 ev75 lv75 uv75 => ?_)
              refine lv_iadd hx hb dX10_boards_194 ?_
              refine lv_topi (fun v76 ev76 => ?_)
              refine lv_goto (tgt := 204) hx hb dX10_boards_195 (by decide) ?_
              exact J204 y0_174 v76 E_174 H_174 k_174 l67 S_174 F_174 (by have := fb_rng y0_174; omega) (by have := fb_rng y0_174; omega) (by have := fb_rng y0_174; omega) (by have := fb_rng y0_174; omega) (by have := fb_rng y0_174; omega) (by have := fb_rng y0_174; omega) (fun k hk => (z66 k hk)) (lv_sub hl68 [1, 2, 3, 4, 0] rfl)
          have J148 : ∀ (x4_148 : Int32) (y0_148 : Int32) (E_148 : Ec) (H_148 : Heap) (k_148 : List Loc) (l_148 : Array Slot), Now D TB cy (va_A (va_pl L E) sz) s L τ E_148 H_148 k_148 → Fr L τ (inW [(11, 0), (84, 0), (85, 0)]) E E_148 → (1 ≤ a1.toInt) → (a1.toInt ≤ 10000) → (1 ≤ x2_72.toInt) → (x2_72.toInt ≤ 4095) → (0 ≤ x3_99.toInt) → (x3_99.toInt ≤ 11) → (0 ≤ x4_148.toInt) → (x4_148.toInt ≤ 4095) → (0 ≤ y0_148.toInt) → (y0_148.toInt ≤ 1) → (∀ k : Nat, k ∉ ([3, 4, 6] : List Nat) → fi E_148 a0 k = fi E a0 k) → lv_has l_148 8 [(0, .ref a0), (1, .int a1), (2, .int x2_72), (3, .int x3_99), (4, .int x4_148)] → W p l e { frames := 1, cells := 0, slots := 0, locals := 23 } s m args below meth c H_148 k_148 0 0 QQ (F0 m 148 l_148 [.int y0_148]) := by
            intro x4_148 y0_148 E_148 H_148 k_148 l_148 S_148 F_148 z77 z78 z79 z80 z81 z82 z83 z84 z85 z86 z87 hl_148
            refine lv_istore (lv' := [(5, .int y0_148), (0, .ref a0), (1, .int a1), (2, .int x2_72), (3, .int x3_99), (4, .int x4_148)]) hx hb dX10_boards_148 hl_148 (by decide) rfl (fun l88 hl89 => ?_)
            refine lv_iload hx hb dX10_boards_150 (lv_at hl89 0 rfl) ?_
            refine lv_if_eq (tgt := 165) hx hb dX10_boards_152 (by decide) (fun c90 => ?_) (fun c90 => ?_)
            · skip
              have tc90 := nu_eq c90
              have uc90 : (0 : Int32).toInt = 0 := rfl
              refine lv_aload_n hx hb dX10_boards_165 rfl (lv_at hl89 1 rfl) ?_
              refine tr_getr Z.1 Z.2.2.2.1 S_148.1 S_148.2 ha0 ta0 rfl rfl (fun _ h => List.mem_cons_of_mem _ (List.mem_append_right _ h)) 43 (by decide) rfl (hts _ (List.mem_of_getElem? (i := 4) rfl)) dX10_boards_166 (fun q91 eq91 hq91 tq91 => ?_)
              have tq91 : τ q91 = (84, 0) := tq91
              refine lv_iload hx hb dX10_boards_169 (lv_at hl89 5 rfl) ?_
              refine tr_iald Z.1 Z.2.2.2.1 S_148.1 S_148.2 hq91 tq91 rfl (by omega) (by omega) dX10_boards_171 (fun v92 ev92 lv92 uv92 => ?_)
              obtain ⟨v93, ev93, tv93⟩ : ∃ v : Int32, Int32.ofInt (1) = v ∧ v.toInt = 1 := ⟨_, rfl, by decide +kernel⟩
              refine lv_iconst hx hb dX10_boards_172 ev93 ?_
              refine lv_iadd hx hb dX10_boards_173 ?_
              refine lv_topi (fun v94 ev94 => ?_)
              exact J174 x4_148 y0_148 v94 E_148 H_148 k_148 l88 S_148 F_148 (by omega) (by omega) (by omega) (by omega) (by omega) (by omega) (by omega) (by omega) (by omega) (by omega) (fun k hk => (z87 k hk)) (lv_sub hl89 [1, 2, 3, 4, 5, 0] rfl)
            · skip
              have tc90 := nu_ne c90
              have uc90 : (0 : Int32).toInt = 0 := rfl
              refine lv_aload_n hx hb dX10_boards_155 rfl (lv_at hl89 1 rfl) ?_
              refine tr_getr Z.1 Z.2.2.2.1 S_148.1 S_148.2 ha0 ta0 rfl rfl (fun _ h => List.mem_cons_of_mem _ (List.mem_append_right _ h)) 43 (by decide) rfl (hts _ (List.mem_of_getElem? (i := 4) rfl)) dX10_boards_156 (fun q95 eq95 hq95 tq95 => ?_)
              have tq95 : τ q95 = (84, 0) := tq95
              refine lv_iload hx hb dX10_boards_159 (lv_at hl89 5 rfl) ?_
              refine tr_iald Z.1 Z.2.2.2.1 S_148.1 S_148.2 hq95 tq95 rfl (by omega) (by omega) dX10_boards_161 (fun v96 ev96 lv96 uv96 => ?_)
              refine lv_goto (tgt := 174) hx hb dX10_boards_162 (by decide) ?_
              exact J174 x4_148 y0_148 v96 E_148 H_148 k_148 l88 S_148 F_148 (by omega) (by omega) (by omega) (by omega) (by omega) (by omega) (by omega) (by omega) (by omega) (by omega) (fun k hk => (z87 k hk)) (lv_sub hl89 [1, 2, 3, 4, 5, 0] rfl)
          refine lv_iload_n hx hb dX10_boards_99 rfl (lv_at hl_99 3 rfl) ?_
          refine lv_aload_n hx hb dX10_boards_100 rfl (lv_at hl_99 0 rfl) ?_
          refine tr_geti Z.1 Z.2.2.2.1 S_99.1 S_99.2 ha0 ta0 rfl rfl (fun _ h => List.mem_cons_of_mem _ (List.mem_append_right _ h)) 45 (by decide) rfl (hts _ (List.mem_of_getElem? (i := 2) rfl)) dX10_boards_101 (fun v97 ev97 lv97 uv97 => ?_)
          refine lv_icmp_ge (tgt := 264) hx hb dX10_boards_104 (by decide) (fun c98 => ?_) (fun c98 => ?_)
          · skip
            have tc98 := nu_le c98
            obtain ⟨v99, ev99⟩ : ∃ y : Int32, x2_72 + Int32.ofInt (1) = y := ⟨_, rfl⟩
            have tv99 : v99.toInt = x2_72.toInt + (1) := by rw [← ev99]; exact (fb_addI (by rw [show (Int32.ofInt (1)).toInt = 1 from by decide +kernel]; omega) (by rw [show (Int32.ofInt (1)).toInt = 1 from by decide +kernel]; omega)).trans (by rw [show (Int32.ofInt (1)).toInt = 1 from by decide +kernel])
            refine lv_iinc (v := v99) (lv' := [(2, .int v99), (0, .ref a0), (1, .int a1), (3, .int x3_99)]) hx hb dX10_boards_264 hl_99 (k := 2) rfl ev99 (by decide) rfl (fun l100 hl101 => ?_)
            refine lv_goto (tgt := 72) hx hb dX10_boards_267 (by decide) ?_
            exact ih_72 v99 E_99 H_99 k_99 l100 S_99 F_99 (by omega) (by omega) (by omega) (by omega) (fun k hk => (z12 k hk)) (by omega) (lv_sub hl101 [1, 2, 0] rfl)
          · skip
            have tc98 := nu_nle c98
            refine lv_iload_n hx hb dX10_boards_107 rfl (lv_at hl_99 2 rfl) ?_
            refine lv_iload_n hx hb dX10_boards_108 rfl (lv_at hl_99 3 rfl) ?_
            refine lv_ishr hx hb dX10_boards_109 ?_
            refine lv_topi (fun v102 ev102 => ?_)
            obtain ⟨v103, ev103, tv103⟩ : ∃ v : Int32, Int32.ofInt (1) = v ∧ v.toInt = 1 := ⟨_, rfl, by decide +kernel⟩
            refine lv_iconst hx hb dX10_boards_110 ev103 ?_
            refine lv_iand hx hb dX10_boards_111 ?_
            refine lv_topi (fun v104 ev104 => ?_)
            refine lv_if_ne (tgt := 118) hx hb dX10_boards_112 (by decide) (fun c105 => ?_) (fun c105 => ?_)
            · skip
              have tc105 := nu_ne c105
              have uc105 : (0 : Int32).toInt = 0 := rfl
              refine lv_iload_n hx hb dX10_boards_118 rfl (lv_at hl_99 2 rfl) ?_
              obtain ⟨v106, ev106, tv106⟩ : ∃ v : Int32, Int32.ofInt (1) = v ∧ v.toInt = 1 := ⟨_, rfl, by decide +kernel⟩
              refine lv_iconst hx hb dX10_boards_119 ev106 ?_
              refine lv_iload_n hx hb dX10_boards_120 rfl (lv_at hl_99 3 rfl) ?_
              refine lv_ishl hx hb dX10_boards_121 ?_
              refine lv_topi (fun v107 ev107 => ?_)
              have tv107 := nu_sh1 ev107 (by omega) (by omega) (by omega)
              refine lv_ixor hx hb dX10_boards_122 ?_
              refine lv_topi (fun v108 ev108 => ?_)
              have tv108 := nu_xor ev108 (by omega) (by omega) (by omega) (by omega)
              refine lv_istore (lv' := [(4, .int v108), (0, .ref a0), (1, .int a1), (2, .int x2_72), (3, .int x3_99)]) hx hb dX10_boards_123 hl_99 (by decide) rfl (fun l109 hl110 => ?_)
              refine lv_aload_n hx hb dX10_boards_125 rfl (lv_at hl110 1 rfl) ?_
              refine tr_getr Z.1 Z.2.2.2.1 S_99.1 S_99.2 ha0 ta0 rfl rfl (fun _ h => List.mem_cons_of_mem _ (List.mem_append_right _ h)) 44 (by decide) rfl (hts _ (List.mem_of_getElem? (i := 5) rfl)) dX10_boards_126 (fun q111 eq111 hq111 tq111 => ?_)
              have tq111 : τ q111 = (85, 0) := tq111
              refine lv_iload hx hb dX10_boards_129 (lv_at hl110 0 rfl) ?_
              refine tr_iald Z.1 Z.2.2.2.1 S_99.1 S_99.2 hq111 tq111 rfl (by omega) (by omega) dX10_boards_131 (fun v112 ev112 lv112 uv112 => ?_)
              refine lv_aload_n hx hb dX10_boards_132 rfl (lv_at hl110 1 rfl) ?_
              refine tr_getr Z.1 Z.2.2.2.1 S_99.1 S_99.2 ha0 ta0 rfl rfl (fun _ h => List.mem_cons_of_mem _ (List.mem_append_right _ h)) 42 (by decide) rfl (hts _ (List.mem_of_getElem? (i := 3) rfl)) dX10_boards_133 (fun q113 eq113 hq113 tq113 => ?_)
              have tq113 : τ q113 = (83, 0) := tq113
              refine lv_iload_n hx hb dX10_boards_136 rfl (lv_at hl110 4 rfl) ?_
              refine tr_iald Z.1 Z.2.2.2.1 S_99.1 S_99.2 hq113 tq113 rfl (by omega) (by omega) dX10_boards_137 (fun v114 ev114 lv114 uv114 => ?_)
              refine lv_iadd hx hb dX10_boards_138 ?_
              refine lv_topi (fun v115 ev115 => ?_)
              refine lv_iload_n hx hb dX10_boards_139 rfl (lv_at hl110 2 rfl) ?_
              refine lv_icmp_gt (tgt := 147) hx hb dX10_boards_140 (by decide) (fun c116 => ?_) (fun c116 => ?_)
              · skip
                have tc116 := nu_lt c116
                obtain ⟨v117, ev117, tv117⟩ : ∃ v : Int32, Int32.ofInt (0) = v ∧ v.toInt = 0 := ⟨_, rfl, by decide +kernel⟩
                refine lv_iconst hx hb dX10_boards_147 ev117 ?_
                exact J148 v108 v117 E_99 H_99 k_99 l109 S_99 F_99 (by omega) (by omega) (by omega) (by omega) (by omega) (by omega) (by omega) (by omega) (by omega) (by omega) (fun k hk => (z12 k hk)) (lv_sub hl110 [1, 2, 3, 4, 0] rfl)
              · skip
                have tc116 := nu_nlt c116
                obtain ⟨v118, ev118, tv118⟩ : ∃ v : Int32, Int32.ofInt (1) = v ∧ v.toInt = 1 := ⟨_, rfl, by decide +kernel⟩
                refine lv_iconst hx hb dX10_boards_143 ev118 ?_
                refine lv_goto (tgt := 148) hx hb dX10_boards_144 (by decide) ?_
                exact J148 v108 v118 E_99 H_99 k_99 l109 S_99 F_99 (by omega) (by omega) (by omega) (by omega) (by omega) (by omega) (by omega) (by omega) (by omega) (by omega) (fun k hk => (z12 k hk)) (lv_sub hl110 [1, 2, 3, 4, 0] rfl)
            · skip
              have tc105 := nu_eq c105
              have uc105 : (0 : Int32).toInt = 0 := rfl
              refine lv_goto (tgt := 258) hx hb dX10_boards_115 (by decide) ?_
              exact J258 E_99 H_99 k_99 l_99 S_99 F_99 (by omega) (by omega) (by omega) (by omega) (by omega) (by omega) (fun k hk => (z12 k hk)) (lv_sub hl_99 [0, 1, 2, 3] rfl)
      refine lv_iload_n hx hb dX10_boards_72 rfl (lv_at hl_72 2 rfl) ?_
      obtain ⟨v119, ev119, tv119⟩ : ∃ v : Int32, Int32.ofInt (1) = v ∧ v.toInt = 1 := ⟨_, rfl, by decide +kernel⟩
      refine lv_iconst hx hb dX10_boards_73 ev119 ?_
      refine lv_aload_n hx hb dX10_boards_74 rfl (lv_at hl_72 0 rfl) ?_
      refine tr_geti Z.1 Z.2.2.2.1 S_72.1 S_72.2 ha0 ta0 rfl rfl (fun _ h => List.mem_cons_of_mem _ (List.mem_append_right _ h)) 45 (by decide) rfl (hts _ (List.mem_of_getElem? (i := 2) rfl)) dX10_boards_75 (fun v120 ev120 lv120 uv120 => ?_)
      refine lv_ishl hx hb dX10_boards_78 ?_
      refine lv_topi (fun v121 ev121 => ?_)
      have tv121 := nu_sh1 ev121 (by omega) (by omega) (by omega)
      refine lv_icmp_ge (tgt := 270) hx hb dX10_boards_79 (by decide) (fun c122 => ?_) (fun c122 => ?_)
      · skip
        have tc122 := nu_le c122
        refine lv_aload_n hx hb dX10_boards_270 rfl (lv_at hl_72 0 rfl) ?_
        refine tr_getr Z.1 Z.2.2.2.1 S_72.1 S_72.2 ha0 ta0 rfl rfl (fun _ h => List.mem_cons_of_mem _ (List.mem_append_right _ h)) 43 (by decide) rfl (hts _ (List.mem_of_getElem? (i := 4) rfl)) dX10_boards_271 (fun q123 eq123 hq123 tq123 => ?_)
        have tq123 : τ q123 = (84, 0) := tq123
        obtain ⟨v124, ev124, tv124⟩ : ∃ v : Int32, Int32.ofInt (1) = v ∧ v.toInt = 1 := ⟨_, rfl, by decide +kernel⟩
        refine lv_iconst hx hb dX10_boards_274 ev124 ?_
        refine lv_aload_n hx hb dX10_boards_275 rfl (lv_at hl_72 0 rfl) ?_
        refine tr_geti Z.1 Z.2.2.2.1 S_72.1 S_72.2 ha0 ta0 rfl rfl (fun _ h => List.mem_cons_of_mem _ (List.mem_append_right _ h)) 45 (by decide) rfl (hts _ (List.mem_of_getElem? (i := 2) rfl)) dX10_boards_276 (fun v125 ev125 lv125 uv125 => ?_)
        have wv125 : v125 = v120 := ev125.symm.trans ev120
        have xv125 : v125.toInt = v120.toInt := by rw [wv125]
        refine lv_ishl hx hb dX10_boards_279 ?_
        refine lv_topi (fun v126 ev126 => ?_)
        have tv126 := nu_sh1 ev126 (by omega) (by omega) (by omega)
        obtain ⟨v127, ev127, tv127⟩ : ∃ v : Int32, Int32.ofInt (1) = v ∧ v.toInt = 1 := ⟨_, rfl, by decide +kernel⟩
        refine lv_iconst hx hb dX10_boards_280 ev127 ?_
        refine lv_isub hx hb dX10_boards_281 ?_
        refine lv_topi (fun v128 ev128 => ?_)
        have tv128 := nu_sub ev128 (by omega) (by omega)
        refine tr_iald Z.1 Z.2.2.2.1 S_72.1 S_72.2 hq123 tq123 rfl (by omega) (by omega) dX10_boards_282 (fun v129 ev129 lv129 uv129 => ?_)
        rw [← hQ]
        exact en_i Z S_72 F_72 (fun k hk => (z5 k hk)) dX10_boards_283
      · skip
        have tc122 := nu_nle c122
        refine lv_aload_n hx hb dX10_boards_82 rfl (lv_at hl_72 0 rfl) ?_
        refine tr_getr Z.1 Z.2.2.2.1 S_72.1 S_72.2 ha0 ta0 rfl rfl (fun _ h => List.mem_cons_of_mem _ (List.mem_append_right _ h)) 43 (by decide) rfl (hts _ (List.mem_of_getElem? (i := 4) rfl)) dX10_boards_83 (fun q130 eq130 hq130 tq130 => ?_)
        have tq130 : τ q130 = (84, 0) := tq130
        refine lv_iload_n hx hb dX10_boards_86 rfl (lv_at hl_72 2 rfl) ?_
        obtain ⟨v131, ev131, tv131⟩ : ∃ v : Int32, (Int8.ofInt (100)).toInt32 = v ∧ v.toInt = 100 := ⟨_, rfl, by decide +kernel⟩
        refine lv_bipush hx hb dX10_boards_87 ev131 ?_
        refine tr_iast Z.1 Z.2.2.2.1 S_72.1 S_72.2 hq130 tq130 rfl (by omega) (by omega) (by have := fb_rng v131; omega) (by have := fb_rng v131; omega) dX10_boards_89 (fun E132 H133 k134 W132 I132 P132 => ?_)
        have S132 : Now D TB cy (va_A (va_pl L E) sz) s L τ E132 H133 k134 := ⟨W132, I132⟩
        have F132 : Fr L τ (inW [(11, 0), (84, 0), (85, 0)]) E E132 := Fr.set F_72 P132 tq130 rfl
        refine lv_aload_n hx hb dX10_boards_90 rfl (lv_at hl_72 0 rfl) ?_
        refine tr_getr Z.1 Z.2.2.2.1 S132.1 S132.2 ha0 ta0 rfl rfl (fun _ h => List.mem_cons_of_mem _ (List.mem_append_right _ h)) 44 (by decide) rfl (hts _ (List.mem_of_getElem? (i := 5) rfl)) dX10_boards_91 (fun q135 eq135 hq135 tq135 => ?_)
        have tq135 : τ q135 = (85, 0) := tq135
        refine lv_iload_n hx hb dX10_boards_94 rfl (lv_at hl_72 2 rfl) ?_
        obtain ⟨v136, ev136, tv136⟩ : ∃ v : Int32, Int32.ofInt (0) = v ∧ v.toInt = 0 := ⟨_, rfl, by decide +kernel⟩
        refine lv_iconst hx hb dX10_boards_95 ev136 ?_
        refine tr_iast Z.1 Z.2.2.2.1 S132.1 S132.2 hq135 tq135 rfl (by omega) (by omega) (by have := fb_rng v136; omega) (by have := fb_rng v136; omega) dX10_boards_96 (fun E137 H138 k139 W137 I137 P137 => ?_)
        have S137 : Now D TB cy (va_A (va_pl L E) sz) s L τ E137 H138 k139 := ⟨W137, I137⟩
        have F137 : Fr L τ (inW [(11, 0), (84, 0), (85, 0)]) E E137 := Fr.set F132 P137 tq135 rfl
        obtain ⟨v140, ev140, tv140⟩ : ∃ v : Int32, Int32.ofInt (0) = v ∧ v.toInt = 0 := ⟨_, rfl, by decide +kernel⟩
        refine lv_iconst hx hb dX10_boards_97 ev140 ?_
        refine lv_istore_n (lv' := [(3, .int v140), (0, .ref a0), (1, .int a1), (2, .int x2_72)]) hx hb dX10_boards_98 rfl hl_72 (by decide) rfl (fun l141 hl142 => ?_)
        exact J99 _ v140 E137 H138 k139 l141 S137 F137 (by omega) (by omega) (by omega) (by omega) (by omega) (by omega) (fun k hk => ((fi_set P137 (ne_ro ta0 tq135 (by decide))).trans ((fi_set P132 (ne_ro ta0 tq130 (by decide))).trans (z5 k hk)))) (Nat.lt_succ_self _) (lv_sub hl142 [1, 2, 3, 0] rfl)
  have J29 : ∀ (n : Nat) (x2_29 : Int32) (E_29 : Ec) (H_29 : Heap) (k_29 : List Loc) (l_29 : Array Slot), Now D TB cy (va_A (va_pl L E) sz) s L τ E_29 H_29 k_29 → Fr L τ (inW [(11, 0), (84, 0), (85, 0)]) E E_29 → (1 ≤ a1.toInt) → (a1.toInt ≤ 10000) → (0 ≤ x2_29.toInt) → (x2_29.toInt ≤ 12) → (∀ k : Nat, k ∉ ([3, 4, 6] : List Nat) → fi E_29 a0 k = fi E a0 k) → (12 - x2_29.toInt).toNat < n → lv_has l_29 8 [(0, .ref a0), (1, .int a1), (2, .int x2_29)] → W p l e { frames := 1, cells := 0, slots := 0, locals := 23 } s m args below meth c H_29 k_29 0 0 QQ (F0 m 29 l_29 []) := by
    intro n
    induction n with
    | zero => intro x2_29 E_29 H_29 k_29 l_29 S_29 F_29 z143 z144 z145 z146 z147 hm hl_29; exact absurd hm (Nat.not_lt_zero _)
    | succ n ih =>
      intro x2_29 E_29 H_29 k_29 l_29 S_29 F_29 z143 z144 z145 z146 z147 hm hl_29
      have ih_29 := ih
      refine lv_iload_n hx hb dX10_boards_29 rfl (lv_at hl_29 2 rfl) ?_
      refine lv_aload_n hx hb dX10_boards_30 rfl (lv_at hl_29 0 rfl) ?_
      refine tr_geti Z.1 Z.2.2.2.1 S_29.1 S_29.2 ha0 ta0 rfl rfl (fun _ h => List.mem_cons_of_mem _ (List.mem_append_right _ h)) 45 (by decide) rfl (hts _ (List.mem_of_getElem? (i := 2) rfl)) dX10_boards_31 (fun v148 ev148 lv148 uv148 => ?_)
      refine lv_icmp_ge (tgt := 56) hx hb dX10_boards_34 (by decide) (fun c149 => ?_) (fun c149 => ?_)
      · skip
        have tc149 := nu_le c149
        refine lv_aload_n hx hb dX10_boards_56 rfl (lv_at hl_29 0 rfl) ?_
        refine tr_getr Z.1 Z.2.2.2.1 S_29.1 S_29.2 ha0 ta0 rfl rfl (fun _ h => List.mem_cons_of_mem _ (List.mem_append_right _ h)) 43 (by decide) rfl (hts _ (List.mem_of_getElem? (i := 4) rfl)) dX10_boards_57 (fun q150 eq150 hq150 tq150 => ?_)
        have tq150 : τ q150 = (84, 0) := tq150
        obtain ⟨v151, ev151, tv151⟩ : ∃ v : Int32, Int32.ofInt (0) = v ∧ v.toInt = 0 := ⟨_, rfl, by decide +kernel⟩
        refine lv_iconst hx hb dX10_boards_60 ev151 ?_
        obtain ⟨v152, ev152, tv152⟩ : ∃ v : Int32, Int32.ofInt (0) = v ∧ v.toInt = 0 := ⟨_, rfl, by decide +kernel⟩
        refine lv_iconst hx hb dX10_boards_61 ev152 ?_
        refine tr_iast Z.1 Z.2.2.2.1 S_29.1 S_29.2 hq150 tq150 rfl (by omega) (by omega) (by have := fb_rng v152; omega) (by have := fb_rng v152; omega) dX10_boards_62 (fun E153 H154 k155 W153 I153 P153 => ?_)
        have S153 : Now D TB cy (va_A (va_pl L E) sz) s L τ E153 H154 k155 := ⟨W153, I153⟩
        have F153 : Fr L τ (inW [(11, 0), (84, 0), (85, 0)]) E E153 := Fr.set F_29 P153 tq150 rfl
        refine lv_aload_n hx hb dX10_boards_63 rfl (lv_at hl_29 0 rfl) ?_
        refine tr_getr Z.1 Z.2.2.2.1 S153.1 S153.2 ha0 ta0 rfl rfl (fun _ h => List.mem_cons_of_mem _ (List.mem_append_right _ h)) 44 (by decide) rfl (hts _ (List.mem_of_getElem? (i := 5) rfl)) dX10_boards_64 (fun q156 eq156 hq156 tq156 => ?_)
        have tq156 : τ q156 = (85, 0) := tq156
        obtain ⟨v157, ev157, tv157⟩ : ∃ v : Int32, Int32.ofInt (0) = v ∧ v.toInt = 0 := ⟨_, rfl, by decide +kernel⟩
        refine lv_iconst hx hb dX10_boards_67 ev157 ?_
        refine lv_iload_n hx hb dX10_boards_68 rfl (lv_at hl_29 1 rfl) ?_
        refine tr_iast Z.1 Z.2.2.2.1 S153.1 S153.2 hq156 tq156 rfl (by omega) (by omega) (by have := fb_rng a1; omega) (by have := fb_rng a1; omega) dX10_boards_69 (fun E158 H159 k160 W158 I158 P158 => ?_)
        have S158 : Now D TB cy (va_A (va_pl L E) sz) s L τ E158 H159 k160 := ⟨W158, I158⟩
        have F158 : Fr L τ (inW [(11, 0), (84, 0), (85, 0)]) E E158 := Fr.set F153 P158 tq156 rfl
        obtain ⟨v161, ev161, tv161⟩ : ∃ v : Int32, Int32.ofInt (1) = v ∧ v.toInt = 1 := ⟨_, rfl, by decide +kernel⟩
        refine lv_iconst hx hb dX10_boards_70 ev161 ?_
        refine lv_istore_n (lv' := [(2, .int v161), (0, .ref a0), (1, .int a1)]) hx hb dX10_boards_71 rfl hl_29 (by decide) rfl (fun l162 hl163 => ?_)
        exact J72 _ v161 E158 H159 k160 l162 S158 F158 (by omega) (by omega) (by omega) (by omega) (fun k hk => ((fi_set P158 (ne_ro ta0 tq156 (by decide))).trans ((fi_set P153 (ne_ro ta0 tq150 (by decide))).trans (z147 k hk)))) (Nat.lt_succ_self _) (lv_sub hl163 [1, 2, 0] rfl)
      · skip
        have tc149 := nu_nle c149
        refine lv_aload_n hx hb dX10_boards_37 rfl (lv_at hl_29 0 rfl) ?_
        refine tr_getr Z.1 Z.2.2.2.1 S_29.1 S_29.2 ha0 ta0 rfl rfl (fun _ h => List.mem_cons_of_mem _ (List.mem_append_right _ h)) 42 (by decide) rfl (hts _ (List.mem_of_getElem? (i := 3) rfl)) dX10_boards_38 (fun q164 eq164 hq164 tq164 => ?_)
        have tq164 : τ q164 = (83, 0) := tq164
        refine lv_iload_n hx hb dX10_boards_41 rfl (lv_at hl_29 2 rfl) ?_
        refine tr_iald Z.1 Z.2.2.2.1 S_29.1 S_29.2 hq164 tq164 rfl (by omega) (by omega) dX10_boards_42 (fun v165 ev165 lv165 uv165 => ?_)
        refine lv_iload_n hx hb dX10_boards_43 rfl (lv_at hl_29 1 rfl) ?_
        refine lv_icmp_le (tgt := 50) hx hb dX10_boards_44 (by decide) (fun c166 => ?_) (fun c166 => ?_)
        · skip
          have tc166 := nu_le c166
          obtain ⟨v167, ev167⟩ : ∃ y : Int32, x2_29 + Int32.ofInt (1) = y := ⟨_, rfl⟩
          have tv167 : v167.toInt = x2_29.toInt + (1) := by rw [← ev167]; exact (fb_addI (by rw [show (Int32.ofInt (1)).toInt = 1 from by decide +kernel]; omega) (by rw [show (Int32.ofInt (1)).toInt = 1 from by decide +kernel]; omega)).trans (by rw [show (Int32.ofInt (1)).toInt = 1 from by decide +kernel])
          refine lv_iinc (v := v167) (lv' := [(2, .int v167), (0, .ref a0), (1, .int a1)]) hx hb dX10_boards_50 hl_29 (k := 2) rfl ev167 (by decide) rfl (fun l168 hl169 => ?_)
          refine lv_goto (tgt := 29) hx hb dX10_boards_53 (by decide) ?_
          exact ih_29 v167 E_29 H_29 k_29 l168 S_29 F_29 (by omega) (by omega) (by omega) (by omega) (fun k hk => (z147 k hk)) (by omega) (lv_sub hl169 [1, 2, 0] rfl)
        · skip
          have tc166 := nu_nle c166
          obtain ⟨v170, ev170, tv170⟩ : ∃ v : Int32, (Int8.ofInt (-2)).toInt32 = v ∧ v.toInt = -2 := ⟨_, rfl, by decide +kernel⟩
          refine lv_bipush hx hb dX10_boards_47 ev170 ?_
          rw [← hQ]
          exact en_i Z S_29 F_29 (fun k hk => (z147 k hk)) dX10_boards_49
  refine lv_aload_n hx hb dX10_boards_0 rfl (lv_at hl 0 rfl) ?_
  obtain ⟨v171, ev171, tv171⟩ : ∃ v : Int32, Int32.ofInt (0) = v ∧ v.toInt = 0 := ⟨_, rfl, by decide +kernel⟩
  refine lv_iconst hx hb dX10_boards_1 ev171 ?_
  refine tr_puti Z.1 Z.2.2.2.1 S0.1 S0.2 ha0 ta0 rfl rfl (fun _ h => List.mem_cons_of_mem _ (List.mem_append_right _ h)) tyX10_ok nmX10 4 (by decide) rfl rfl rfl (hts _ (List.mem_of_getElem? (i := 1) rfl)) dX10_boards_2 (by omega) (by omega) (fun E172 H173 k174 W172 I172 P172 => ?_)
  have S172 : Now D TB cy (va_A (va_pl L E) sz) s L τ E172 H173 k174 := ⟨W172, I172⟩
  have F172 : Fr L τ (inW [(11, 0), (84, 0), (85, 0)]) E E172 := Fr.put F0_ P172 ta0 rfl
  refine lv_aload_n hx hb dX10_boards_5 rfl (lv_at hl 0 rfl) ?_
  refine lv_iload_n hx hb dX10_boards_6 rfl (lv_at hl 1 rfl) ?_
  obtain ⟨v175, ev175, tv175⟩ : ∃ v : Int32, Int32.ofInt (1) = v ∧ v.toInt = 1 := ⟨_, rfl, by decide +kernel⟩
  refine lv_iconst hx hb dX10_boards_7 ev175 ?_
  obtain ⟨v176, ev176, tv176⟩ : ∃ v : Int32, (Int16.ofInt (10000)).toInt32 = v ∧ v.toInt = 10000 := ⟨_, rfl, by decide +kernel⟩
  refine lv_sipush hx hb dX10_boards_8 ev176 ?_
  refine tc_vi Z.1 Z.2.2.2.1 Z.2.2.2.2.1 Z.2.2.2.2.2 S172.1 S172.2 ha0 ta0 rfl rfl (k_X10_in l D cy S172.2 ha0 ta0 a1 v175 v176) (cwV 3 hts gX10_boards_X10_in rfl rfl rfl (by decide +kernel) ⟨Nat.le_of_ble_eq_true rfl, Nat.le_of_ble_eq_true rfl⟩) rfl hl.1 rfl (Nat.le_of_ble_eq_true rfl) dX10_boards_11 ⟨Nat.zero_le _, Nat.zero_le _⟩ (fun v180 E177 H178 k179 W177 I177 G177 p177 => ?_)
  obtain ⟨q177, p177_0, p177_1, p177_2⟩ := p177
  have q177 := q177.symm
  subst q177
  have S177 : Now D TB cy (va_A (va_pl L E) sz) s L τ E172 H178 k179 := ⟨W177, I177⟩
  refine lv_if_ne (tgt := 23) hx hb dX10_boards_14 (by decide) (fun c181 => ?_) (fun c181 => ?_)
  · skip
    have tc181 := nu_ne c181
    have uc181 : (0 : Int32).toInt = 0 := rfl
    refine lv_aload_n hx hb dX10_boards_23 rfl (lv_at hl 0 rfl) ?_
    refine tc_vv Z.1 Z.2.2.2.1 Z.2.2.2.2.1 Z.2.2.2.2.2 S177.1 S177.2 ha0 ta0 rfl rfl (k_X10_good l D cy S177.2 ha0 ta0) (cwV 0 hts gX10_boards_X10_good rfl rfl rfl (by decide +kernel) ⟨Nat.le_of_ble_eq_true rfl, Nat.le_of_ble_eq_true rfl⟩) rfl hl.1 rfl (Nat.le_of_ble_eq_true rfl) dX10_boards_24 ⟨Nat.zero_le _, Nat.zero_le _⟩ (fun E182 H183 k184 W182 I182 G182 p182 => ?_)
    have p182_0 := p182
    have S182 : Now D TB cy (va_A (va_pl L E) sz) s L τ E182 H183 k184 := ⟨W182, I182⟩
    have F182 : Fr L τ (inW [(11, 0), (84, 0), (85, 0)]) E E182 := F172.trans (G182.mono (inW_mono (by decide)))
    obtain ⟨v186, ev186, tv186⟩ : ∃ v : Int32, Int32.ofInt (0) = v ∧ v.toInt = 0 := ⟨_, rfl, by decide +kernel⟩
    refine lv_iconst hx hb dX10_boards_27 ev186 ?_
    refine lv_istore_n (lv' := [(2, .int v186), (0, .ref a0), (1, .int a1)]) hx hb dX10_boards_28 rfl hl (by decide) rfl (fun l187 hl188 => ?_)
    exact J29 _ v186 E182 H183 k184 l187 S182 F182 (by omega) (by omega) (by omega) (by omega) (fun k hk => ((p182_0 k (fw_sub (by decide) hk)).trans ((fi_put P172 (Or.inr (fw_ne (by decide) hk))).trans ((fun k hk => rfl) k hk)))) (Nat.lt_succ_self _) (lv_sub hl188 [1, 2, 0] rfl)
  · skip
    have tc181 := nu_eq c181
    have uc181 : (0 : Int32).toInt = 0 := rfl
    refine lv_aload_n hx hb dX10_boards_17 rfl (lv_at hl 0 rfl) ?_
    obtain ⟨v189, ev189, tv189⟩ : ∃ v : Int32, Int32.ofInt (1) = v ∧ v.toInt = 1 := ⟨_, rfl, by decide +kernel⟩
    refine lv_iconst hx hb dX10_boards_18 ev189 ?_
    refine tc_vi Z.1 Z.2.2.2.1 Z.2.2.2.2.1 Z.2.2.2.2.2 S177.1 S177.2 ha0 ta0 rfl rfl (k_X10_no l D cy S177.2 ha0 ta0 v189) (cwV 1 hts gX10_boards_X10_no rfl rfl rfl (by decide +kernel) ⟨Nat.le_of_ble_eq_true rfl, Nat.le_of_ble_eq_true rfl⟩) rfl hl.1 rfl (Nat.le_of_ble_eq_true rfl) dX10_boards_19 ⟨Nat.zero_le _, Nat.zero_le _⟩ (fun v193 E190 H191 k192 W190 I190 G190 p190 => ?_)
    obtain ⟨p190_0, p190_1, p190_2⟩ := p190
    have S190 : Now D TB cy (va_A (va_pl L E) sz) s L τ E190 H191 k192 := ⟨W190, I190⟩
    have F190 : Fr L τ (inW [(11, 0), (84, 0), (85, 0)]) E E190 := F172.trans (G190.mono (inW_mono (by decide)))
    rw [← hQ]
    exact en_i Z S190 F190 (fun k hk => ((p190_2 k (fw_sub (by decide) hk)).trans ((fi_put P172 (Or.inr (fw_ne (by decide) hk))).trans ((fun k hk => rfl) k hk)))) dX10_boards_22

