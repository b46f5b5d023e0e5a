set_option maxRecDepth 20000 in
theorem ggX10_act_X10_good : GoodIn wsX10_act wsX10_good := goodIn_r _ [8, 9, 10, 11, 12, 13, 14, 15, 16, 17, 18, 19, 20, 21, 22, 23, 24, 25, 26, 27, 28, 29, 30, 31, 32, 33, 34, 35, 36, 37, 38, 39, 40, 41, 42, 43, 44, 45, 46, 47, 48, 49, 50, 51, 52, 53, 54, 55, 56, 57, 58] (by decide +kernel) (by decide +kernel)
set_option maxRecDepth 20000 in
theorem gX10_act_X10_good : GoodIn wsX10_act (wsV RX10 106 RX10 yX10_good wsX10_good) := goodIn_app (goodIn_of _ (by decide +kernel)) ggX10_act_X10_good
theorem dX10_act_0 : decode cX10_act 0 = .ok (.aload_n 0, 1) := by decide +kernel
theorem dX10_act_1 : decode cX10_act 1 = .ok (.getfield 103, 3) := by decide +kernel
theorem dX10_act_4 : decode cX10_act 4 = .ok (.bipush 40, 2) := by decide +kernel
theorem dX10_act_6 : decode cX10_act 6 = .ok (.if_icmp .ne 44, 3) := by decide +kernel
theorem dX10_act_9 : decode cX10_act 9 = .ok (.bipush 53, 2) := by decide +kernel
theorem dX10_act_11 : decode cX10_act 11 = .ok (.istore_n 1, 1) := by decide +kernel
theorem dX10_act_12 : decode cX10_act 12 = .ok (.iload_n 1, 1) := by decide +kernel
theorem dX10_act_13 : decode cX10_act 13 = .ok (.sipush 2120, 3) := by decide +kernel
theorem dX10_act_16 : decode cX10_act 16 = .ok (.if_icmp .ge 24, 3) := by decide +kernel
theorem dX10_act_19 : decode cX10_act 19 = .ok (.aload_n 0, 1) := by decide +kernel
theorem dX10_act_20 : decode cX10_act 20 = .ok (.getfield 13, 3) := by decide +kernel
theorem dX10_act_23 : decode cX10_act 23 = .ok (.iload_n 1, 1) := by decide +kernel
theorem dX10_act_24 : decode cX10_act 24 = .ok (.bipush 53, 2) := by decide +kernel
theorem dX10_act_26 : decode cX10_act 26 = .ok (.isub, 1) := by decide +kernel
theorem dX10_act_27 : decode cX10_act 27 = .ok (.aload_n 0, 1) := by decide +kernel
theorem dX10_act_28 : decode cX10_act 28 = .ok (.getfield 13, 3) := by decide +kernel
theorem dX10_act_31 : decode cX10_act 31 = .ok (.iload_n 1, 1) := by decide +kernel
theorem dX10_act_32 : decode cX10_act 32 = .ok (.iaload, 1) := by decide +kernel
theorem dX10_act_33 : decode cX10_act 33 = .ok (.iastore, 1) := by decide +kernel
theorem dX10_act_34 : decode cX10_act 34 = .ok (.iinc 1 1, 3) := by decide +kernel
theorem dX10_act_37 : decode cX10_act 37 = .ok (.goto (-25), 3) := by decide +kernel
theorem dX10_act_40 : decode cX10_act 40 = .ok (.aload_n 0, 1) := by decide +kernel
theorem dX10_act_41 : decode cX10_act 41 = .ok (.dup, 1) := by decide +kernel
theorem dX10_act_42 : decode cX10_act 42 = .ok (.getfield 103, 3) := by decide +kernel
theorem dX10_act_45 : decode cX10_act 45 = .ok (.iconst 1, 1) := by decide +kernel
theorem dX10_act_46 : decode cX10_act 46 = .ok (.isub, 1) := by decide +kernel
theorem dX10_act_47 : decode cX10_act 47 = .ok (.putfield 103, 3) := by decide +kernel
theorem dX10_act_50 : decode cX10_act 50 = .ok (.iconst 0, 1) := by decide +kernel
theorem dX10_act_51 : decode cX10_act 51 = .ok (.istore_n 1, 1) := by decide +kernel
theorem dX10_act_52 : decode cX10_act 52 = .ok (.iload_n 1, 1) := by decide +kernel
theorem dX10_act_53 : decode cX10_act 53 = .ok (.bipush 53, 2) := by decide +kernel
theorem dX10_act_55 : decode cX10_act 55 = .ok (.if_icmp .ge 29, 3) := by decide +kernel
theorem dX10_act_58 : decode cX10_act 58 = .ok (.aload_n 0, 1) := by decide +kernel
theorem dX10_act_59 : decode cX10_act 59 = .ok (.getfield 13, 3) := by decide +kernel
theorem dX10_act_62 : decode cX10_act 62 = .ok (.bipush 53, 2) := by decide +kernel
theorem dX10_act_64 : decode cX10_act 64 = .ok (.aload_n 0, 1) := by decide +kernel
theorem dX10_act_65 : decode cX10_act 65 = .ok (.getfield 103, 3) := by decide +kernel
theorem dX10_act_68 : decode cX10_act 68 = .ok (.imul, 1) := by decide +kernel
theorem dX10_act_69 : decode cX10_act 69 = .ok (.iload_n 1, 1) := by decide +kernel
theorem dX10_act_70 : decode cX10_act 70 = .ok (.iadd, 1) := by decide +kernel
theorem dX10_act_71 : decode cX10_act 71 = .ok (.aload_n 0, 1) := by decide +kernel
theorem dX10_act_72 : decode cX10_act 72 = .ok (.getfield 7, 3) := by decide +kernel
theorem dX10_act_75 : decode cX10_act 75 = .ok (.iload_n 1, 1) := by decide +kernel
theorem dX10_act_76 : decode cX10_act 76 = .ok (.iaload, 1) := by decide +kernel
theorem dX10_act_77 : decode cX10_act 77 = .ok (.iastore, 1) := by decide +kernel
theorem dX10_act_78 : decode cX10_act 78 = .ok (.iinc 1 1, 3) := by decide +kernel
theorem dX10_act_81 : decode cX10_act 81 = .ok (.goto (-29), 3) := by decide +kernel
theorem dX10_act_84 : decode cX10_act 84 = .ok (.aload_n 0, 1) := by decide +kernel
theorem dX10_act_85 : decode cX10_act 85 = .ok (.dup, 1) := by decide +kernel
theorem dX10_act_86 : decode cX10_act 86 = .ok (.getfield 103, 3) := by decide +kernel
theorem dX10_act_89 : decode cX10_act 89 = .ok (.iconst 1, 1) := by decide +kernel
theorem dX10_act_90 : decode cX10_act 90 = .ok (.iadd, 1) := by decide +kernel
theorem dX10_act_91 : decode cX10_act 91 = .ok (.putfield 103, 3) := by decide +kernel
theorem dX10_act_94 : decode cX10_act 94 = .ok (.aload_n 0, 1) := by decide +kernel
theorem dX10_act_95 : decode cX10_act 95 = .ok (.invokevirtual 106, 3) := by decide +kernel
theorem dX10_act_98 : decode cX10_act 98 = .ok (.return_, 1) := by decide +kernel
set_option maxHeartbeats 4000000 in
set_option maxRecDepth 100000 in
theorem k_X10_act (l : Launch) (D : va_G) (cy : Nat → ClassId) {L : List Nat} {τ : Nat → Ro} {E : Ec} (hI : Inv TB cy L τ E) {a0 : Nat} (ha0 : a0 ∈ L) (ta0 : τ a0 = (11, 0)) : CtV l yX10_act wsX10_act { frames := 1, cells := 0, slots := 0, locals := 20 } D TB cy L τ E [.ref a0] (inW [(11, 0), (61, 0)]) (fun E' => (∀ k : Nat, k ∉ ([2, 3, 6] : List Nat) → fi E' a0 k = fi E a0 k)) := by
  intro sz
  refine sta (cc := cX10_act) (maxL := 2) hI (by decide) rfl (Nat.le_of_ble_eq_true rfl) (fun p e s m args below meth c ls hsz Z S0 hl => ?_)
  have hx := Z.1.1
  have hb := Z.1.2.1
  have hts := Z.1.2.2.2.2
  have F0_ : Fr L τ (inW [(11, 0), (61, 0)]) E E := Fr.refl
  have hl : lv_has ls 2 [(0, .ref a0)] := hl
  generalize hQ : MQ below _ args s 0 0 _ = QQ
  have J52 : ∀ (n : Nat) (x1_52 : Int32) (E_52 : Ec) (H_52 : Heap) (k_52 : List Loc) (l_52 : Array Slot), Now D TB cy (va_A (va_pl L E) sz) s L τ E_52 H_52 k_52 → Fr L τ (inW [(11, 0), (61, 0)]) E E_52 → (0 ≤ x1_52.toInt) → (x1_52.toInt ≤ 53) → (∀ k : Nat, k ∉ ([2, 3, 6] : List Nat) → fi E_52 a0 k = fi E a0 k) → (0 ≤ (fi E_52 a0 2).toInt ∧ (fi E_52 a0 2).toInt ≤ 39) → (53 - x1_52.toInt).toNat < n → lv_has l_52 2 [(0, .ref a0), (1, .int x1_52)] → W p l e { frames := 1, cells := 0, slots := 0, locals := 20 } s m args below meth c H_52 k_52 0 0 QQ (F0 m 52 l_52 []) := by
    intro n
    induction n with
    | zero => intro x1_52 E_52 H_52 k_52 l_52 S_52 F_52 z1 z2 z3 z4 hm hl_52; exact absurd hm (Nat.not_lt_zero _)
    | succ n ih =>
      intro x1_52 E_52 H_52 k_52 l_52 S_52 F_52 z1 z2 z3 z4 hm hl_52
      have ih_52 := ih
      refine lv_iload_n hx hb dX10_act_52 rfl (lv_at hl_52 1 rfl) ?_
      obtain ⟨v5, ev5, tv5⟩ : ∃ v : Int32, (Int8.ofInt (53)).toInt32 = v ∧ v.toInt = 53 := ⟨_, rfl, by decide +kernel⟩
      refine lv_bipush hx hb dX10_act_53 ev5 ?_
      refine lv_icmp_ge (tgt := 84) hx hb dX10_act_55 (by decide) (fun c6 => ?_) (fun c6 => ?_)
      · skip
        have tc6 := nu_le c6
        refine lv_aload_n hx hb dX10_act_84 rfl (lv_at hl_52 0 rfl) ?_
        refine lv_dup hx hb dX10_act_85 rfl ?_
        refine tr_geti Z.1 Z.2.2.2.1 S_52.1 S_52.2 ha0 ta0 rfl rfl (fun _ h => List.mem_cons_of_mem _ (List.mem_append_right _ h)) 2 (by decide) rfl (hts _ (List.mem_of_getElem? (i := 1) rfl)) dX10_act_86 (fun v7 ev7 lv7 uv7 => ?_)
        have wv7 : v7 = (fi E_52 a0 2) := ev7.symm.trans rfl
        have xv7 : v7.toInt = (fi E_52 a0 2).toInt := by rw [wv7]
        obtain ⟨v8, ev8, tv8⟩ : ∃ v : Int32, Int32.ofInt (1) = v ∧ v.toInt = 1 := ⟨_, rfl, by decide +kernel⟩
        refine lv_iconst hx hb dX10_act_89 ev8 ?_
        refine lv_iadd hx hb dX10_act_90 ?_
        refine lv_topi (fun v9 ev9 => ?_)
        have tv9 := nu_add ev9 (by omega) (by omega)
        refine tr_puti Z.1 Z.2.2.2.1 S_52.1 S_52.2 ha0 ta0 rfl rfl (fun _ h => List.mem_cons_of_mem _ (List.mem_append_right _ h)) tyX10_ok nmX10 2 (by decide) rfl rfl rfl (hts _ (List.mem_of_getElem? (i := 1) rfl)) dX10_act_91 (by omega) (by omega) (fun E10 H11 k12 W10 I10 P10 => ?_)
        have S10 : Now D TB cy (va_A (va_pl L E) sz) s L τ E10 H11 k12 := ⟨W10, I10⟩
        have F10 : Fr L τ (inW [(11, 0), (61, 0)]) E E10 := Fr.put F_52 P10 ta0 rfl
        refine lv_aload_n hx hb dX10_act_94 rfl (lv_at hl_52 0 rfl) ?_
        refine tc_vv Z.1 Z.2.2.2.1 Z.2.2.2.2.1 Z.2.2.2.2.2 S10.1 S10.2 ha0 ta0 rfl rfl (k_X10_good l D cy S10.2 ha0 ta0) (cwV 0 hts gX10_act_X10_good rfl rfl rfl (by decide +kernel) ⟨Nat.le_of_ble_eq_true rfl, Nat.le_of_ble_eq_true rfl⟩) rfl hl_52.1 rfl (Nat.le_of_ble_eq_true rfl) dX10_act_95 ⟨Nat.zero_le _, Nat.zero_le _⟩ (fun E13 H14 k15 W13 I13 G13 p13 => ?_)
        have p13_0 := p13
        have S13 : Now D TB cy (va_A (va_pl L E) sz) s L τ E13 H14 k15 := ⟨W13, I13⟩
        have F13 : Fr L τ (inW [(11, 0), (61, 0)]) E E13 := F10.trans (G13.mono (inW_mono (by decide)))
        rw [← hQ]
        exact en_v Z S13 F13 (fun k hk => ((p13_0 k (fw_sub (by decide) hk)).trans ((fi_put P10 (Or.inr (fw_ne (by decide) hk))).trans (z3 k hk)))) dX10_act_98
      · skip
        have tc6 := nu_nle c6
        refine lv_aload_n hx hb dX10_act_58 rfl (lv_at hl_52 0 rfl) ?_
        refine tr_getr Z.1 Z.2.2.2.1 S_52.1 S_52.2 ha0 ta0 rfl rfl (fun _ h => List.mem_cons_of_mem _ (List.mem_append_right _ h)) 1 (by decide) rfl (hts _ (List.mem_of_getElem? (i := 2) rfl)) dX10_act_59 (fun q17 eq17 hq17 tq17 => ?_)
        have tq17 : τ q17 = (61, 0) := tq17
        obtain ⟨v18, ev18, tv18⟩ : ∃ v : Int32, (Int8.ofInt (53)).toInt32 = v ∧ v.toInt = 53 := ⟨_, rfl, by decide +kernel⟩
        refine lv_bipush hx hb dX10_act_62 ev18 ?_
        refine lv_aload_n hx hb dX10_act_64 rfl (lv_at hl_52 0 rfl) ?_
        refine tr_geti Z.1 Z.2.2.2.1 S_52.1 S_52.2 ha0 ta0 rfl rfl (fun _ h => List.mem_cons_of_mem _ (List.mem_append_right _ h)) 2 (by decide) rfl (hts _ (List.mem_of_getElem? (i := 1) rfl)) dX10_act_65 (fun v19 ev19 lv19 uv19 => ?_)
        have wv19 : v19 = (fi E_52 a0 2) := ev19.symm.trans rfl
        have xv19 : v19.toInt = (fi E_52 a0 2).toInt := by rw [wv19]
        refine lv_imul hx hb dX10_act_68 ?_
        refine lv_topi (fun v20 ev20 => ?_)
        have tv20 := nu_mulc' (53) ev20 (by omega) (by omega) (by omega)
        refine lv_iload_n hx hb dX10_act_69 rfl (lv_at hl_52 1 rfl) ?_
        refine lv_iadd hx hb dX10_act_70 ?_
        refine lv_topi (fun v21 ev21 => ?_)
        have tv21 := nu_add ev21 (by omega) (by omega)
        refine lv_aload_n hx hb dX10_act_71 rfl (lv_at hl_52 0 rfl) ?_
        refine tr_getr Z.1 Z.2.2.2.1 S_52.1 S_52.2 ha0 ta0 rfl rfl (fun _ h => List.mem_cons_of_mem _ (List.mem_append_right _ h)) 0 (by decide) rfl (hts _ (List.mem_of_getElem? (i := 3) rfl)) dX10_act_72 (fun q22 eq22 hq22 tq22 => ?_)
        have tq22 : τ q22 = (60, 0) := tq22
        refine lv_iload_n hx hb dX10_act_75 rfl (lv_at hl_52 1 rfl) ?_
        refine tr_ialdx Z.1 Z.2.2.2.1 S_52.1 S_52.2 hq22 tq22 rfl (by omega) (by omega) dX10_act_76 (fun v23 ev23 lv23 uv23 => ?_)
        have b24 : (pastB v21.toNatClampNeg).1 ≤ v23.toInt ∧ v23.toInt ≤ (pastB v21.toNatClampNeg).2 := by rw [pn_eq (i := v21) (k := x1_52) (by omega) (by omega) (by omega)]; exact ⟨lv23, uv23⟩
        refine tr_iastx Z.1 Z.2.2.2.1 S_52.1 S_52.2 hq17 tq17 rfl (by omega) (by omega) b24.1 b24.2 dX10_act_77 (fun E24 H25 k26 W24 I24 P24 => ?_)
        have S24 : Now D TB cy (va_A (va_pl L E) sz) s L τ E24 H25 k26 := ⟨W24, I24⟩
        have F24 : Fr L τ (inW [(11, 0), (61, 0)]) E E24 := Fr.set F_52 P24 tq17 rfl
        obtain ⟨v27, ev27⟩ : ∃ y : Int32, x1_52 + Int32.ofInt (1) = y := ⟨_, rfl⟩
        have tv27 : v27.toInt = x1_52.toInt + (1) := by rw [← ev27]; exact (fb_addI (by rw [show (Int32.ofInt (1)).toInt = 1 from by decide +kernel]; omega) (by rw [show (Int32.ofInt (1)).toInt = 1 from by decide +kernel]; omega)).trans (by rw [show (Int32.ofInt (1)).toInt = 1 from by decide +kernel])
        refine lv_iinc (v := v27) (lv' := [(1, .int v27), (0, .ref a0)]) hx hb dX10_act_78 hl_52 (k := 1) rfl ev27 (by decide) rfl (fun l28 hl29 => ?_)
        refine lv_goto (tgt := 52) hx hb dX10_act_81 (by decide) ?_
        exact ih_52 v27 E24 H25 k26 l28 S24 F24 (by omega) (by omega) (fun k hk => ((fi_set P24 (ne_ro ta0 tq17 (by decide))).trans (z3 k hk))) (by rw [((fi_set P24 (ne_ro ta0 tq17 (by decide))).trans ev19)]; omega) (by omega) (lv_sub hl29 [1, 0] rfl)
  have J50 : ∀  (E_50 : Ec) (H_50 : Heap) (k_50 : List Loc) (l_50 : Array Slot), Now D TB cy (va_A (va_pl L E) sz) s L τ E_50 H_50 k_50 → Fr L τ (inW [(11, 0), (61, 0)]) E E_50 → (∀ k : Nat, k ∉ ([2, 3, 6] : List Nat) → fi E_50 a0 k = fi E a0 k) → (0 ≤ (fi E_50 a0 2).toInt ∧ (fi E_50 a0 2).toInt ≤ 39) → lv_has l_50 2 [(0, .ref a0)] → W p l e { frames := 1, cells := 0, slots := 0, locals := 20 } s m args below meth c H_50 k_50 0 0 QQ (F0 m 50 l_50 []) := by
    intro  E_50 H_50 k_50 l_50 S_50 F_50 z30 z31 hl_50
    obtain ⟨v32, ev32, tv32⟩ : ∃ v : Int32, Int32.ofInt (0) = v ∧ v.toInt = 0 := ⟨_, rfl, by decide +kernel⟩
    refine lv_iconst hx hb dX10_act_50 ev32 ?_
    refine lv_istore_n (lv' := [(1, .int v32), (0, .ref a0)]) hx hb dX10_act_51 rfl hl_50 (by decide) rfl (fun l33 hl34 => ?_)
    exact J52 _ v32 E_50 H_50 k_50 l33 S_50 F_50 (by omega) (by omega) (fun k hk => (z30 k hk)) (by omega) (Nat.lt_succ_self _) (lv_sub hl34 [1, 0] rfl)
  have J12 : ∀ (n : Nat) (x1_12 : Int32) (E_12 : Ec) (H_12 : Heap) (k_12 : List Loc) (l_12 : Array Slot), Now D TB cy (va_A (va_pl L E) sz) s L τ E_12 H_12 k_12 → Fr L τ (inW [(11, 0), (61, 0)]) E E_12 → (53 ≤ x1_12.toInt) → (x1_12.toInt ≤ 2120) → (∀ k : Nat, k ∉ ([2, 3, 6] : List Nat) → fi E_12 a0 k = fi E a0 k) → (40 ≤ (fi E_12 a0 2).toInt ∧ (fi E_12 a0 2).toInt ≤ 40) → (2120 - x1_12.toInt).toNat < n → lv_has l_12 2 [(0, .ref a0), (1, .int x1_12)] → W p l e { frames := 1, cells := 0, slots := 0, locals := 20 } s m args below meth c H_12 k_12 0 0 QQ (F0 m 12 l_12 []) := by
    intro n
    induction n with
    | zero => intro x1_12 E_12 H_12 k_12 l_12 S_12 F_12 z35 z36 z37 z38 hm hl_12; exact absurd hm (Nat.not_lt_zero _)
    | succ n ih =>
      intro x1_12 E_12 H_12 k_12 l_12 S_12 F_12 z35 z36 z37 z38 hm hl_12
      have ih_12 := ih
      refine lv_iload_n hx hb dX10_act_12 rfl (lv_at hl_12 1 rfl) ?_
      obtain ⟨v39, ev39, tv39⟩ : ∃ v : Int32, (Int16.ofInt (2120)).toInt32 = v ∧ v.toInt = 2120 := ⟨_, rfl, by decide +kernel⟩
      refine lv_sipush hx hb dX10_act_13 ev39 ?_
      refine lv_icmp_ge (tgt := 40) hx hb dX10_act_16 (by decide) (fun c40 => ?_) (fun c40 => ?_)
      · skip
        have tc40 := nu_le c40
        refine lv_aload_n hx hb dX10_act_40 rfl (lv_at hl_12 0 rfl) ?_
        refine lv_dup hx hb dX10_act_41 rfl ?_
        refine tr_geti Z.1 Z.2.2.2.1 S_12.1 S_12.2 ha0 ta0 rfl rfl (fun _ h => List.mem_cons_of_mem _ (List.mem_append_right _ h)) 2 (by decide) rfl (hts _ (List.mem_of_getElem? (i := 1) rfl)) dX10_act_42 (fun v41 ev41 lv41 uv41 => ?_)
        have wv41 : v41 = (fi E_12 a0 2) := ev41.symm.trans rfl
        have xv41 : v41.toInt = (fi E_12 a0 2).toInt := by rw [wv41]
        obtain ⟨v42, ev42, tv42⟩ : ∃ v : Int32, Int32.ofInt (1) = v ∧ v.toInt = 1 := ⟨_, rfl, by decide +kernel⟩
        refine lv_iconst hx hb dX10_act_45 ev42 ?_
        refine lv_isub hx hb dX10_act_46 ?_
        refine lv_topi (fun v43 ev43 => ?_)
        have tv43 := nu_sub ev43 (by omega) (by omega)
        refine tr_puti Z.1 Z.2.2.2.1 S_12.1 S_12.2 ha0 ta0 rfl rfl (fun _ h => List.mem_cons_of_mem _ (List.mem_append_right _ h)) tyX10_ok nmX10 2 (by decide) rfl rfl rfl (hts _ (List.mem_of_getElem? (i := 1) rfl)) dX10_act_47 (by omega) (by omega) (fun E44 H45 k46 W44 I44 P44 => ?_)
        have S44 : Now D TB cy (va_A (va_pl L E) sz) s L τ E44 H45 k46 := ⟨W44, I44⟩
        have F44 : Fr L τ (inW [(11, 0), (61, 0)]) E E44 := Fr.put F_12 P44 ta0 rfl
        exact J50 E44 H45 k46 l_12 S44 F44 (fun k hk => ((fi_put P44 (Or.inr (fw_ne (by decide) hk))).trans (z37 k hk))) (by rw [(fi_at P44)]; omega) (lv_sub hl_12 [0] rfl)
      · skip
        have tc40 := nu_nle c40
        refine lv_aload_n hx hb dX10_act_19 rfl (lv_at hl_12 0 rfl) ?_
        refine tr_getr Z.1 Z.2.2.2.1 S_12.1 S_12.2 ha0 ta0 rfl rfl (fun _ h => List.mem_cons_of_mem _ (List.mem_append_right _ h)) 1 (by decide) rfl (hts _ (List.mem_of_getElem? (i := 2) rfl)) dX10_act_20 (fun q47 eq47 hq47 tq47 => ?_)
        have tq47 : τ q47 = (61, 0) := tq47
        refine lv_iload_n hx hb dX10_act_23 rfl (lv_at hl_12 1 rfl) ?_
        obtain ⟨v48, ev48, tv48⟩ : ∃ v : Int32, (Int8.ofInt (53)).toInt32 = v ∧ v.toInt = 53 := ⟨_, rfl, by decide +kernel⟩
        refine lv_bipush hx hb dX10_act_24 ev48 ?_
        refine lv_isub hx hb dX10_act_26 ?_
        refine lv_topi (fun v49 ev49 => ?_)
        have tv49 := nu_sub ev49 (by omega) (by omega)
        refine lv_aload_n hx hb dX10_act_27 rfl (lv_at hl_12 0 rfl) ?_
        refine tr_getr Z.1 Z.2.2.2.1 S_12.1 S_12.2 ha0 ta0 rfl rfl (fun _ h => List.mem_cons_of_mem _ (List.mem_append_right _ h)) 1 (by decide) rfl (hts _ (List.mem_of_getElem? (i := 2) rfl)) dX10_act_28 (fun q50 eq50 hq50 tq50 => ?_)
        have tq50 : τ q50 = (61, 0) := tq50
        have uq50 : q47 = q50 := S_12.2.2.2.2 _ hq47 _ hq50 (tq47.trans tq50.symm) (by rw [tq47]; rfl)
        subst uq50
        refine lv_iload_n hx hb dX10_act_31 rfl (lv_at hl_12 1 rfl) ?_
        refine tr_ialdx Z.1 Z.2.2.2.1 S_12.1 S_12.2 hq47 tq47 rfl (by omega) (by omega) dX10_act_32 (fun v51 ev51 lv51 uv51 => ?_)
        have b52 : (pastB v49.toNatClampNeg).1 ≤ v51.toInt ∧ v51.toInt ≤ (pastB v49.toNatClampNeg).2 := by rw [pb_eq (i := v49) (j := x1_12) (by omega) (by omega) (by omega)]; exact ⟨lv51, uv51⟩
        refine tr_iastx Z.1 Z.2.2.2.1 S_12.1 S_12.2 hq47 tq47 rfl (by omega) (by omega) b52.1 b52.2 dX10_act_33 (fun E52 H53 k54 W52 I52 P52 => ?_)
        have S52 : Now D TB cy (va_A (va_pl L E) sz) s L τ E52 H53 k54 := ⟨W52, I52⟩
        have F52 : Fr L τ (inW [(11, 0), (61, 0)]) E E52 := Fr.set F_12 P52 tq47 rfl
        obtain ⟨v55, ev55⟩ : ∃ y : Int32, x1_12 + Int32.ofInt (1) = y := ⟨_, rfl⟩
        have tv55 : v55.toInt = x1_12.toInt + (1) := by rw [← ev55]; exact (fb_addI (by rw [show (Int32.ofInt (1)).toInt = 1 from by decide +kernel]; omega) (by rw [show (Int32.ofInt (1)).toInt = 1 from by decide +kernel]; omega)).trans (by rw [show (Int32.ofInt (1)).toInt = 1 from by decide +kernel])
        refine lv_iinc (v := v55) (lv' := [(1, .int v55), (0, .ref a0)]) hx hb dX10_act_34 hl_12 (k := 1) rfl ev55 (by decide) rfl (fun l56 hl57 => ?_)
        refine lv_goto (tgt := 12) hx hb dX10_act_37 (by decide) ?_
        exact ih_12 v55 E52 H53 k54 l56 S52 F52 (by omega) (by omega) (fun k hk => ((fi_set P52 (ne_ro ta0 tq47 (by decide))).trans (z37 k hk))) (by rw [((fi_set P52 (ne_ro ta0 tq47 (by decide))).trans rfl)]; omega) (by omega) (lv_sub hl57 [1, 0] rfl)
  refine lv_aload_n hx hb dX10_act_0 rfl (lv_at hl 0 rfl) ?_
  refine tr_geti Z.1 Z.2.2.2.1 S0.1 S0.2 ha0 ta0 rfl rfl (fun _ h => List.mem_cons_of_mem _ (List.mem_append_right _ h)) 2 (by decide) rfl (hts _ (List.mem_of_getElem? (i := 1) rfl)) dX10_act_1 (fun v58 ev58 lv58 uv58 => ?_)
  obtain ⟨v59, ev59, tv59⟩ : ∃ v : Int32, (Int8.ofInt (40)).toInt32 = v ∧ v.toInt = 40 := ⟨_, rfl, by decide +kernel⟩
  refine lv_bipush hx hb dX10_act_4 ev59 ?_
  refine lv_icmp_ne (tgt := 50) hx hb dX10_act_6 (by decide) (fun c60 => ?_) (fun c60 => ?_)
  · skip
    have tc60 := nu_ne c60
    exact J50 E s.heap [] ls S0 F0_ (fun k hk => ((fun k hk => rfl) k hk)) (by rw [ev58]; omega) (lv_sub hl [0] rfl)
  · skip
    have tc60 := nu_eq c60
    obtain ⟨v61, ev61, tv61⟩ : ∃ v : Int32, (Int8.ofInt (53)).toInt32 = v ∧ v.toInt = 53 := ⟨_, rfl, by decide +kernel⟩
    refine lv_bipush hx hb dX10_act_9 ev61 ?_
    refine lv_istore_n (lv' := [(1, .int v61), (0, .ref a0)]) hx hb dX10_act_11 rfl hl (by decide) rfl (fun l62 hl63 => ?_)
    exact J12 _ v61 E s.heap [] l62 S0 F0_ (by omega) (by omega) (fun k hk => ((fun k hk => rfl) k hk)) (by rw [ev58]; omega) (Nat.lt_succ_self _) (lv_sub hl63 [1, 0] rfl)

theorem dX10_undo_0 : decode cX10_undo 0 = .ok (.aload_n 0, 1) := by decide +kernel
theorem dX10_undo_1 : decode cX10_undo 1 = .ok (.iconst 0, 1) := by decide +kernel
theorem dX10_undo_2 : decode cX10_undo 2 = .ok (.putfield 97, 3) := by decide +kernel
theorem dX10_undo_5 : decode cX10_undo 5 = .ok (.aload_n 0, 1) := by decide +kernel
theorem dX10_undo_6 : decode cX10_undo 6 = .ok (.getfield 103, 3) := by decide +kernel
theorem dX10_undo_9 : decode cX10_undo 9 = .ok (.ifCond .ne 5, 3) := by decide +kernel
theorem dX10_undo_12 : decode cX10_undo 12 = .ok (.iconst 0, 1) := by decide +kernel
theorem dX10_undo_13 : decode cX10_undo 13 = .ok (.ireturn, 1) := by decide +kernel
theorem dX10_undo_14 : decode cX10_undo 14 = .ok (.aload_n 0, 1) := by decide +kernel
theorem dX10_undo_15 : decode cX10_undo 15 = .ok (.dup, 1) := by decide +kernel
theorem dX10_undo_16 : decode cX10_undo 16 = .ok (.getfield 103, 3) := by decide +kernel
theorem dX10_undo_19 : decode cX10_undo 19 = .ok (.iconst 1, 1) := by decide +kernel
theorem dX10_undo_20 : decode cX10_undo 20 = .ok (.isub, 1) := by decide +kernel
theorem dX10_undo_21 : decode cX10_undo 21 = .ok (.putfield 103, 3) := by decide +kernel
theorem dX10_undo_24 : decode cX10_undo 24 = .ok (.iconst 0, 1) := by decide +kernel
theorem dX10_undo_25 : decode cX10_undo 25 = .ok (.istore_n 1, 1) := by decide +kernel
theorem dX10_undo_26 : decode cX10_undo 26 = .ok (.iload_n 1, 1) := by decide +kernel
theorem dX10_undo_27 : decode cX10_undo 27 = .ok (.bipush 53, 2) := by decide +kernel
theorem dX10_undo_29 : decode cX10_undo 29 = .ok (.if_icmp .ge 29, 3) := by decide +kernel
theorem dX10_undo_32 : decode cX10_undo 32 = .ok (.aload_n 0, 1) := by decide +kernel
theorem dX10_undo_33 : decode cX10_undo 33 = .ok (.getfield 7, 3) := by decide +kernel
theorem dX10_undo_36 : decode cX10_undo 36 = .ok (.iload_n 1, 1) := by decide +kernel
theorem dX10_undo_37 : decode cX10_undo 37 = .ok (.aload_n 0, 1) := by decide +kernel
theorem dX10_undo_38 : decode cX10_undo 38 = .ok (.getfield 13, 3) := by decide +kernel
theorem dX10_undo_41 : decode cX10_undo 41 = .ok (.bipush 53, 2) := by decide +kernel
theorem dX10_undo_43 : decode cX10_undo 43 = .ok (.aload_n 0, 1) := by decide +kernel
theorem dX10_undo_44 : decode cX10_undo 44 = .ok (.getfield 103, 3) := by decide +kernel
theorem dX10_undo_47 : decode cX10_undo 47 = .ok (.imul, 1) := by decide +kernel
theorem dX10_undo_48 : decode cX10_undo 48 = .ok (.iload_n 1, 1) := by decide +kernel
theorem dX10_undo_49 : decode cX10_undo 49 = .ok (.iadd, 1) := by decide +kernel
theorem dX10_undo_50 : decode cX10_undo 50 = .ok (.iaload, 1) := by decide +kernel
theorem dX10_undo_51 : decode cX10_undo 51 = .ok (.iastore, 1) := by decide +kernel
theorem dX10_undo_52 : decode cX10_undo 52 = .ok (.iinc 1 1, 3) := by decide +kernel
theorem dX10_undo_55 : decode cX10_undo 55 = .ok (.goto (-29), 3) := by decide +kernel
theorem dX10_undo_58 : decode cX10_undo 58 = .ok (.iconst 1, 1) := by decide +kernel
theorem dX10_undo_59 : decode cX10_undo 59 = .ok (.ireturn, 1) := by decide +kernel
set_option maxHeartbeats 4000000 in
set_option maxRecDepth 100000 in
theorem k_X10_undo (l : Launch) (D : va_G) (cy : Nat → ClassId) {L : List Nat} {τ : Nat → Ro} {E : Ec} (hI : Inv TB cy L τ E) {a0 : Nat} (ha0 : a0 ∈ L) (ta0 : τ a0 = (11, 0)) : CtI l yX10_undo wsX10_undo { frames := 0, cells := 0, slots := 0, locals := 0 } D TB cy L τ E [.ref a0] (inW [(11, 0), (60, 0)]) (fun r E' => 0 ≤ r.toInt ∧ r.toInt ≤ 1) := by
  intro sz
  refine sta (cc := cX10_undo) (maxL := 2) hI (by decide) rfl (Nat.le_of_ble_eq_true rfl) (fun p e s m args below meth c ls hsz Z S0 hl => ?_)
  have hx := Z.1.1
  have hb := Z.1.2.1
  have hts := Z.1.2.2.2.2
  have F0_ : Fr L τ (inW [(11, 0), (60, 0)]) E E := Fr.refl
  have hl : lv_has ls 2 [(0, .ref a0)] := hl
  generalize hQ : MQ below _ args s 0 0 _ = QQ
  have J26 : ∀ (n : Nat) (x1_26 : Int32) (E_26 : Ec) (H_26 : Heap) (k_26 : List Loc) (l_26 : Array Slot), Now D TB cy (va_A (va_pl L E) sz) s L τ E_26 H_26 k_26 → Fr L τ (inW [(11, 0), (60, 0)]) E E_26 → (0 ≤ x1_26.toInt) → (x1_26.toInt ≤ 53) → (0 ≤ (fi E_26 a0 2).toInt ∧ (fi E_26 a0 2).toInt ≤ 39) → (53 - x1_26.toInt).toNat < n → lv_has l_26 2 [(0, .ref a0), (1, .int x1_26)] → W p l e { frames := 0, cells := 0, slots := 0, locals := 0 } s m args below meth c H_26 k_26 0 0 QQ (F0 m 26 l_26 []) := by
    intro n
    induction n with
    | zero => intro x1_26 E_26 H_26 k_26 l_26 S_26 F_26 z1 z2 z3 hm hl_26; exact absurd hm (Nat.not_lt_zero _)
    | succ n ih =>
      intro x1_26 E_26 H_26 k_26 l_26 S_26 F_26 z1 z2 z3 hm hl_26
      have ih_26 := ih
      refine lv_iload_n hx hb dX10_undo_26 rfl (lv_at hl_26 1 rfl) ?_
      obtain ⟨v4, ev4, tv4⟩ : ∃ v : Int32, (Int8.ofInt (53)).toInt32 = v ∧ v.toInt = 53 := ⟨_, rfl, by decide +kernel⟩
      refine lv_bipush hx hb dX10_undo_27 ev4 ?_
      refine lv_icmp_ge (tgt := 58) hx hb dX10_undo_29 (by decide) (fun c5 => ?_) (fun c5 => ?_)
      · skip
        have tc5 := nu_le c5
        obtain ⟨v6, ev6, tv6⟩ : ∃ v : Int32, Int32.ofInt (1) = v ∧ v.toInt = 1 := ⟨_, rfl, by decide +kernel⟩
        refine lv_iconst hx hb dX10_undo_58 ev6 ?_
        rw [← hQ]
        exact en_i Z S_26 F_26 ⟨(by omega), (by omega)⟩ dX10_undo_59
      · skip
        have tc5 := nu_nle c5
        refine lv_aload_n hx hb dX10_undo_32 rfl (lv_at hl_26 0 rfl) ?_
        refine tr_getr Z.1 Z.2.2.2.1 S_26.1 S_26.2 ha0 ta0 rfl rfl (fun _ h => List.mem_cons_of_mem _ (List.mem_append_right _ h)) 0 (by decide) rfl (hts _ (List.mem_of_getElem? (i := 3) rfl)) dX10_undo_33 (fun q7 eq7 hq7 tq7 => ?_)
        have tq7 : τ q7 = (60, 0) := tq7
        refine lv_iload_n hx hb dX10_undo_36 rfl (lv_at hl_26 1 rfl) ?_
        refine lv_aload_n hx hb dX10_undo_37 rfl (lv_at hl_26 0 rfl) ?_
        refine tr_getr Z.1 Z.2.2.2.1 S_26.1 S_26.2 ha0 ta0 rfl rfl (fun _ h => List.mem_cons_of_mem _ (List.mem_append_right _ h)) 1 (by decide) rfl (hts _ (List.mem_of_getElem? (i := 4) rfl)) dX10_undo_38 (fun q8 eq8 hq8 tq8 => ?_)
        have tq8 : τ q8 = (61, 0) := tq8
        obtain ⟨v9, ev9, tv9⟩ : ∃ v : Int32, (Int8.ofInt (53)).toInt32 = v ∧ v.toInt = 53 := ⟨_, rfl, by decide +kernel⟩
        refine lv_bipush hx hb dX10_undo_41 ev9 ?_
        refine lv_aload_n hx hb dX10_undo_43 rfl (lv_at hl_26 0 rfl) ?_
        refine tr_geti Z.1 Z.2.2.2.1 S_26.1 S_26.2 ha0 ta0 rfl rfl (fun _ h => List.mem_cons_of_mem _ (List.mem_append_right _ h)) 2 (by decide) rfl (hts _ (List.mem_of_getElem? (i := 2) rfl)) dX10_undo_44 (fun v10 ev10 lv10 uv10 => ?_)
        have wv10 : v10 = (fi E_26 a0 2) := ev10.symm.trans rfl
        have xv10 : v10.toInt = (fi E_26 a0 2).toInt := by rw [wv10]
        refine lv_imul hx hb dX10_undo_47 ?_
        refine lv_topi (fun v11 ev11 => ?_)
        have tv11 := nu_mulc' (53) ev11 (by omega) (by omega) (by omega)
        refine lv_iload_n hx hb dX10_undo_48 rfl (lv_at hl_26 1 rfl) ?_
        refine lv_iadd hx hb dX10_undo_49 ?_
        refine lv_topi (fun v12 ev12 => ?_)
        have tv12 := nu_add ev12 (by omega) (by omega)
        refine tr_ialdx Z.1 Z.2.2.2.1 S_26.1 S_26.2 hq8 tq8 rfl (by omega) (by omega) dX10_undo_50 (fun v13 ev13 lv13 uv13 => ?_)
        have b14 : (nowB x1_26.toNatClampNeg).1 ≤ v13.toInt ∧ v13.toInt ≤ (nowB x1_26.toNatClampNeg).2 := by rw [← pn_eq (i := v12) (k := x1_26) (by omega) (by omega) (by omega)]; exact ⟨lv13, uv13⟩
        refine tr_iastx Z.1 Z.2.2.2.1 S_26.1 S_26.2 hq7 tq7 rfl (by omega) (by omega) b14.1 b14.2 dX10_undo_51 (fun E14 H15 k16 W14 I14 P14 => ?_)
        have S14 : Now D TB cy (va_A (va_pl L E) sz) s L τ E14 H15 k16 := ⟨W14, I14⟩
        have F14 : Fr L τ (inW [(11, 0), (60, 0)]) E E14 := Fr.set F_26 P14 tq7 rfl
        obtain ⟨v17, ev17⟩ : ∃ y : Int32, x1_26 + Int32.ofInt (1) = y := ⟨_, rfl⟩
        have tv17 : v17.toInt = x1_26.toInt + (1) := by rw [← ev17]; exact (fb_addI (by rw [show (Int32.ofInt (1)).toInt = 1 from by decide +kernel]; omega) (by rw [show (Int32.ofInt (1)).toInt = 1 from by decide +kernel]; omega)).trans (by rw [show (Int32.ofInt (1)).toInt = 1 from by decide +kernel])
        refine lv_iinc (v := v17) (lv' := [(1, .int v17), (0, .ref a0)]) hx hb dX10_undo_52 hl_26 (k := 1) rfl ev17 (by decide) rfl (fun l18 hl19 => ?_)
        refine lv_goto (tgt := 26) hx hb dX10_undo_55 (by decide) ?_
        exact ih_26 v17 E14 H15 k16 l18 S14 F14 (by omega) (by omega) (by rw [((fi_set P14 (ne_ro ta0 tq7 (by decide))).trans ev10)]; omega) (by omega) (lv_sub hl19 [1, 0] rfl)
  refine lv_aload_n hx hb dX10_undo_0 rfl (lv_at hl 0 rfl) ?_
  obtain ⟨v20, ev20, tv20⟩ : ∃ v : Int32, Int32.ofInt (0) = v ∧ v.toInt = 0 := ⟨_, rfl, by decide +kernel⟩
  refine lv_iconst hx hb dX10_undo_1 ev20 ?_
  refine tr_puti Z.1 Z.2.2.2.1 S0.1 S0.2 ha0 ta0 rfl rfl (fun _ h => List.mem_cons_of_mem _ (List.mem_append_right _ h)) tyX10_ok nmX10 4 (by decide) rfl rfl rfl (hts _ (List.mem_of_getElem? (i := 1) rfl)) dX10_undo_2 (by omega) (by omega) (fun E21 H22 k23 W21 I21 P21 => ?_)
  have S21 : Now D TB cy (va_A (va_pl L E) sz) s L τ E21 H22 k23 := ⟨W21, I21⟩
  have F21 : Fr L τ (inW [(11, 0), (60, 0)]) E E21 := Fr.put F0_ P21 ta0 rfl
  refine lv_aload_n hx hb dX10_undo_5 rfl (lv_at hl 0 rfl) ?_
  refine tr_geti Z.1 Z.2.2.2.1 S21.1 S21.2 ha0 ta0 rfl rfl (fun _ h => List.mem_cons_of_mem _ (List.mem_append_right _ h)) 2 (by decide) rfl (hts _ (List.mem_of_getElem? (i := 2) rfl)) dX10_undo_6 (fun v24 ev24 lv24 uv24 => ?_)
  refine lv_if_ne (tgt := 14) hx hb dX10_undo_9 (by decide) (fun c25 => ?_) (fun c25 => ?_)
  · skip
    have tc25 := nu_ne c25
    have uc25 : (0 : Int32).toInt = 0 := rfl
    refine lv_aload_n hx hb dX10_undo_14 rfl (lv_at hl 0 rfl) ?_
    refine lv_dup hx hb dX10_undo_15 rfl ?_
    refine tr_geti Z.1 Z.2.2.2.1 S21.1 S21.2 ha0 ta0 rfl rfl (fun _ h => List.mem_cons_of_mem _ (List.mem_append_right _ h)) 2 (by decide) rfl (hts _ (List.mem_of_getElem? (i := 2) rfl)) dX10_undo_16 (fun v26 ev26 lv26 uv26 => ?_)
    have wv26 : v26 = v24 := ev26.symm.trans ev24
    have xv26 : v26.toInt = v24.toInt := by rw [wv26]
    obtain ⟨v27, ev27, tv27⟩ : ∃ v : Int32, Int32.ofInt (1) = v ∧ v.toInt = 1 := ⟨_, rfl, by decide +kernel⟩
    refine lv_iconst hx hb dX10_undo_19 ev27 ?_
    refine lv_isub hx hb dX10_undo_20 ?_
    refine lv_topi (fun v28 ev28 => ?_)
    have tv28 := nu_sub ev28 (by omega) (by omega)
    refine tr_puti Z.1 Z.2.2.2.1 S21.1 S21.2 ha0 ta0 rfl rfl (fun _ h => List.mem_cons_of_mem _ (List.mem_append_right _ h)) tyX10_ok nmX10 2 (by decide) rfl rfl rfl (hts _ (List.mem_of_getElem? (i := 2) rfl)) dX10_undo_21 (by omega) (by omega) (fun E29 H30 k31 W29 I29 P29 => ?_)
    have S29 : Now D TB cy (va_A (va_pl L E) sz) s L τ E29 H30 k31 := ⟨W29, I29⟩
    have F29 : Fr L τ (inW [(11, 0), (60, 0)]) E E29 := Fr.put F21 P29 ta0 rfl
    obtain ⟨v32, ev32, tv32⟩ : ∃ v : Int32, Int32.ofInt (0) = v ∧ v.toInt = 0 := ⟨_, rfl, by decide +kernel⟩
    refine lv_iconst hx hb dX10_undo_24 ev32 ?_
    refine lv_istore_n (lv' := [(1, .int v32), (0, .ref a0)]) hx hb dX10_undo_25 rfl hl (by decide) rfl (fun l33 hl34 => ?_)
    exact J26 _ v32 E29 H30 k31 l33 S29 F29 (by omega) (by omega) (by rw [(fi_at P29)]; omega) (Nat.lt_succ_self _) (lv_sub hl34 [1, 0] rfl)
  · skip
    have tc25 := nu_eq c25
    have uc25 : (0 : Int32).toInt = 0 := rfl
    obtain ⟨v35, ev35, tv35⟩ : ∃ v : Int32, Int32.ofInt (0) = v ∧ v.toInt = 0 := ⟨_, rfl, by decide +kernel⟩
    refine lv_iconst hx hb dX10_undo_12 ev35 ?_
    rw [← hQ]
    exact en_i Z S21 F21 ⟨(by omega), (by omega)⟩ dX10_undo_13

theorem dX10_puts_0 : decode cX10_puts 0 = .ok (.aload_n 0, 1) := by decide +kernel
theorem dX10_puts_1 : decode cX10_puts 1 = .ok (.getfield 23, 3) := by decide +kernel
theorem dX10_puts_4 : decode cX10_puts 4 = .ok (.aload_n 0, 1) := by decide +kernel
theorem dX10_puts_5 : decode cX10_puts 5 = .ok (.getfield 112, 3) := by decide +kernel
theorem dX10_puts_8 : decode cX10_puts 8 = .ok (.iload_n 1, 1) := by decide +kernel
theorem dX10_puts_9 : decode cX10_puts 9 = .ok (.iastore, 1) := by decide +kernel
theorem dX10_puts_10 : decode cX10_puts 10 = .ok (.aload_n 0, 1) := by decide +kernel
theorem dX10_puts_11 : decode cX10_puts 11 = .ok (.getfield 32, 3) := by decide +kernel
theorem dX10_puts_14 : decode cX10_puts 14 = .ok (.aload_n 0, 1) := by decide +kernel
theorem dX10_puts_15 : decode cX10_puts 15 = .ok (.getfield 112, 3) := by decide +kernel
theorem dX10_puts_18 : decode cX10_puts 18 = .ok (.iload_n 2, 1) := by decide +kernel
theorem dX10_puts_19 : decode cX10_puts 19 = .ok (.iastore, 1) := by decide +kernel
theorem dX10_puts_20 : decode cX10_puts 20 = .ok (.aload_n 0, 1) := by decide +kernel
theorem dX10_puts_21 : decode cX10_puts 21 = .ok (.getfield 35, 3) := by decide +kernel
theorem dX10_puts_24 : decode cX10_puts 24 = .ok (.aload_n 0, 1) := by decide +kernel
theorem dX10_puts_25 : decode cX10_puts 25 = .ok (.getfield 112, 3) := by decide +kernel
theorem dX10_puts_28 : decode cX10_puts 28 = .ok (.iload_n 3, 1) := by decide +kernel
theorem dX10_puts_29 : decode cX10_puts 29 = .ok (.iastore, 1) := by decide +kernel
theorem dX10_puts_30 : decode cX10_puts 30 = .ok (.aload_n 0, 1) := by decide +kernel
theorem dX10_puts_31 : decode cX10_puts 31 = .ok (.getfield 44, 3) := by decide +kernel
theorem dX10_puts_34 : decode cX10_puts 34 = .ok (.aload_n 0, 1) := by decide +kernel
theorem dX10_puts_35 : decode cX10_puts 35 = .ok (.getfield 112, 3) := by decide +kernel
theorem dX10_puts_38 : decode cX10_puts 38 = .ok (.iload 4, 2) := by decide +kernel
theorem dX10_puts_40 : decode cX10_puts 40 = .ok (.iastore, 1) := by decide +kernel
theorem dX10_puts_41 : decode cX10_puts 41 = .ok (.aload_n 0, 1) := by decide +kernel
theorem dX10_puts_42 : decode cX10_puts 42 = .ok (.getfield 47, 3) := by decide +kernel
theorem dX10_puts_45 : decode cX10_puts 45 = .ok (.aload_n 0, 1) := by decide +kernel
theorem dX10_puts_46 : decode cX10_puts 46 = .ok (.getfield 112, 3) := by decide +kernel
theorem dX10_puts_49 : decode cX10_puts 49 = .ok (.iload 5, 2) := by decide +kernel
theorem dX10_puts_51 : decode cX10_puts 51 = .ok (.iastore, 1) := by decide +kernel
theorem dX10_puts_52 : decode cX10_puts 52 = .ok (.aload_n 0, 1) := by decide +kernel
theorem dX10_puts_53 : decode cX10_puts 53 = .ok (.dup, 1) := by decide +kernel
theorem dX10_puts_54 : decode cX10_puts 54 = .ok (.getfield 112, 3) := by decide +kernel
theorem dX10_puts_57 : decode cX10_puts 57 = .ok (.iconst 1, 1) := by decide +kernel
theorem dX10_puts_58 : decode cX10_puts 58 = .ok (.iadd, 1) := by decide +kernel
theorem dX10_puts_59 : decode cX10_puts 59 = .ok (.putfield 112, 3) := by decide +kernel
theorem dX10_puts_62 : decode cX10_puts 62 = .ok (.return_, 1) := by decide +kernel
set_option maxHeartbeats 4000000 in
set_option maxRecDepth 100000 in
theorem k_X10_puts (l : Launch) (D : va_G) (cy : Nat → ClassId) {L : List Nat} {τ : Nat → Ro} {E : Ec} (hI : Inv TB cy L τ E) {a0 : Nat} (ha0 : a0 ∈ L) (ta0 : τ a0 = (11, 0)) (a1 : Int32) (la1 : 0 ≤ a1.toInt) (ua1 : a1.toInt ≤ 3) (a2 : Int32) (a3 : Int32) (a4 : Int32) (a5 : Int32) (hm : (fi E a0 8).toInt ≤ 65) : CtV l yX10_puts wsX10_puts { frames := 0, cells := 0, slots := 0, locals := 0 } D TB cy L τ E [.ref a0, .int a1, .int a2, .int a3, .int a4, .int a5] (inW [(11, 0), (63, 0), (64, 0), (65, 0), (66, 0), (67, 0), (68, 0), (69, 0), (70, 0), (71, 0)]) (fun E' => ((fi E' a0 8).toInt = (fi E a0 8).toInt + 1)) := by
  intro sz
  refine sta (cc := cX10_puts) (maxL := 6) hI (by decide) rfl (Nat.le_of_ble_eq_true rfl) (fun p e s m args below meth c ls hsz Z S0 hl => ?_)
  have hx := Z.1.1
  have hb := Z.1.2.1
  have hts := Z.1.2.2.2.2
  have F0_ : Fr L τ (inW [(11, 0), (63, 0), (64, 0), (65, 0), (66, 0), (67, 0), (68, 0), (69, 0), (70, 0), (71, 0)]) E E := Fr.refl
  have hl : lv_has ls 6 [(0, .ref a0), (1, .int a1), (2, .int a2), (3, .int a3), (4, .int a4), (5, .int a5)] := hl
  generalize hQ : MQ below _ args s 0 0 _ = QQ
  refine lv_aload_n hx hb dX10_puts_0 rfl (lv_at hl 0 rfl) ?_
  refine tr_getr Z.1 Z.2.2.2.1 S0.1 S0.2 ha0 ta0 rfl rfl (fun _ h => List.mem_cons_of_mem _ (List.mem_append_right _ h)) 9 (by decide) rfl (hts _ (List.mem_of_getElem? (i := 1) rfl)) dX10_puts_1 (fun q1 eq1 hq1 tq1 => ?_)
  have tq1 : τ q1 = (63, 0) := tq1
  refine lv_aload_n hx hb dX10_puts_4 rfl (lv_at hl 0 rfl) ?_
  refine tr_geti Z.1 Z.2.2.2.1 S0.1 S0.2 ha0 ta0 rfl rfl (fun _ h => List.mem_cons_of_mem _ (List.mem_append_right _ h)) 8 (by decide) rfl (hts _ (List.mem_of_getElem? (i := 2) rfl)) dX10_puts_5 (fun v2 ev2 lv2 uv2 => ?_)
  have wv2 : v2 = (fi E a0 8) := ev2.symm.trans rfl
  have xv2 : v2.toInt = (fi E a0 8).toInt := by rw [wv2]
  refine lv_iload_n hx hb dX10_puts_8 rfl (lv_at hl 1 rfl) ?_
  refine tr_iast Z.1 Z.2.2.2.1 S0.1 S0.2 hq1 tq1 rfl (by omega) (by omega) (by omega) (by omega) dX10_puts_9 (fun E3 H4 k5 W3 I3 P3 => ?_)
  have S3 : Now D TB cy (va_A (va_pl L E) sz) s L τ E3 H4 k5 := ⟨W3, I3⟩
  have F3 : Fr L τ (inW [(11, 0), (63, 0), (64, 0), (65, 0), (66, 0), (67, 0), (68, 0), (69, 0), (70, 0), (71, 0)]) E E3 := Fr.set F0_ P3 tq1 rfl
  refine lv_aload_n hx hb dX10_puts_10 rfl (lv_at hl 0 rfl) ?_
  refine tr_getr Z.1 Z.2.2.2.1 S3.1 S3.2 ha0 ta0 rfl rfl (fun _ h => List.mem_cons_of_mem _ (List.mem_append_right _ h)) 12 (by decide) rfl (hts _ (List.mem_of_getElem? (i := 3) rfl)) dX10_puts_11 (fun q6 eq6 hq6 tq6 => ?_)
  have tq6 : τ q6 = (66, 0) := tq6
  refine lv_aload_n hx hb dX10_puts_14 rfl (lv_at hl 0 rfl) ?_
  refine tr_geti Z.1 Z.2.2.2.1 S3.1 S3.2 ha0 ta0 rfl rfl (fun _ h => List.mem_cons_of_mem _ (List.mem_append_right _ h)) 8 (by decide) rfl (hts _ (List.mem_of_getElem? (i := 2) rfl)) dX10_puts_15 (fun v7 ev7 lv7 uv7 => ?_)
  have wv7 : v7 = v2 := ev7.symm.trans ((fi_set P3 (ne_ro ta0 tq1 (by decide))).trans ev2)
  have xv7 : v7.toInt = v2.toInt := by rw [wv7]
  refine lv_iload_n hx hb dX10_puts_18 rfl (lv_at hl 2 rfl) ?_
  refine tr_iast Z.1 Z.2.2.2.1 S3.1 S3.2 hq6 tq6 rfl (by omega) (by omega) (by have := fb_rng a2; omega) (by have := fb_rng a2; omega) dX10_puts_19 (fun E8 H9 k10 W8 I8 P8 => ?_)
  have S8 : Now D TB cy (va_A (va_pl L E) sz) s L τ E8 H9 k10 := ⟨W8, I8⟩
  have F8 : Fr L τ (inW [(11, 0), (63, 0), (64, 0), (65, 0), (66, 0), (67, 0), (68, 0), (69, 0), (70, 0), (71, 0)]) E E8 := Fr.set F3 P8 tq6 rfl
  refine lv_aload_n hx hb dX10_puts_20 rfl (lv_at hl 0 rfl) ?_
  refine tr_getr Z.1 Z.2.2.2.1 S8.1 S8.2 ha0 ta0 rfl rfl (fun _ h => List.mem_cons_of_mem _ (List.mem_append_right _ h)) 13 (by decide) rfl (hts _ (List.mem_of_getElem? (i := 4) rfl)) dX10_puts_21 (fun q11 eq11 hq11 tq11 => ?_)
  have tq11 : τ q11 = (67, 0) := tq11
  refine lv_aload_n hx hb dX10_puts_24 rfl (lv_at hl 0 rfl) ?_
  refine tr_geti Z.1 Z.2.2.2.1 S8.1 S8.2 ha0 ta0 rfl rfl (fun _ h => List.mem_cons_of_mem _ (List.mem_append_right _ h)) 8 (by decide) rfl (hts _ (List.mem_of_getElem? (i := 2) rfl)) dX10_puts_25 (fun v12 ev12 lv12 uv12 => ?_)
  have wv12 : v12 = v7 := ev12.symm.trans ((fi_set P8 (ne_ro ta0 tq6 (by decide))).trans ev7)
  have xv12 : v12.toInt = v7.toInt := by rw [wv12]
  refine lv_iload_n hx hb dX10_puts_28 rfl (lv_at hl 3 rfl) ?_
  refine tr_iast Z.1 Z.2.2.2.1 S8.1 S8.2 hq11 tq11 rfl (by omega) (by omega) (by have := fb_rng a3; omega) (by have := fb_rng a3; omega) dX10_puts_29 (fun E13 H14 k15 W13 I13 P13 => ?_)
  have S13 : Now D TB cy (va_A (va_pl L E) sz) s L τ E13 H14 k15 := ⟨W13, I13⟩
  have F13 : Fr L τ (inW [(11, 0), (63, 0), (64, 0), (65, 0), (66, 0), (67, 0), (68, 0), (69, 0), (70, 0), (71, 0)]) E E13 := Fr.set F8 P13 tq11 rfl
  refine lv_aload_n hx hb dX10_puts_30 rfl (lv_at hl 0 rfl) ?_
  refine tr_getr Z.1 Z.2.2.2.1 S13.1 S13.2 ha0 ta0 rfl rfl (fun _ h => List.mem_cons_of_mem _ (List.mem_append_right _ h)) 16 (by decide) rfl (hts _ (List.mem_of_getElem? (i := 5) rfl)) dX10_puts_31 (fun q16 eq16 hq16 tq16 => ?_)
  have tq16 : τ q16 = (70, 0) := tq16
  refine lv_aload_n hx hb dX10_puts_34 rfl (lv_at hl 0 rfl) ?_
  refine tr_geti Z.1 Z.2.2.2.1 S13.1 S13.2 ha0 ta0 rfl rfl (fun _ h => List.mem_cons_of_mem _ (List.mem_append_right _ h)) 8 (by decide) rfl (hts _ (List.mem_of_getElem? (i := 2) rfl)) dX10_puts_35 (fun v17 ev17 lv17 uv17 => ?_)
  have wv17 : v17 = v12 := ev17.symm.trans ((fi_set P13 (ne_ro ta0 tq11 (by decide))).trans ev12)
  have xv17 : v17.toInt = v12.toInt := by rw [wv17]
  refine lv_iload hx hb dX10_puts_38 (lv_at hl 4 rfl) ?_
  refine tr_iast Z.1 Z.2.2.2.1 S13.1 S13.2 hq16 tq16 rfl (by omega) (by omega) (by have := fb_rng a4; omega) (by have := fb_rng a4; omega) dX10_puts_40 (fun E18 H19 k20 W18 I18 P18 => ?_)
  have S18 : Now D TB cy (va_A (va_pl L E) sz) s L τ E18 H19 k20 := ⟨W18, I18⟩
  have F18 : Fr L τ (inW [(11, 0), (63, 0), (64, 0), (65, 0), (66, 0), (67, 0), (68, 0), (69, 0), (70, 0), (71, 0)]) E E18 := Fr.set F13 P18 tq16 rfl
  refine lv_aload_n hx hb dX10_puts_41 rfl (lv_at hl 0 rfl) ?_
  refine tr_getr Z.1 Z.2.2.2.1 S18.1 S18.2 ha0 ta0 rfl rfl (fun _ h => List.mem_cons_of_mem _ (List.mem_append_right _ h)) 17 (by decide) rfl (hts _ (List.mem_of_getElem? (i := 6) rfl)) dX10_puts_42 (fun q21 eq21 hq21 tq21 => ?_)
  have tq21 : τ q21 = (71, 0) := tq21
  refine lv_aload_n hx hb dX10_puts_45 rfl (lv_at hl 0 rfl) ?_
  refine tr_geti Z.1 Z.2.2.2.1 S18.1 S18.2 ha0 ta0 rfl rfl (fun _ h => List.mem_cons_of_mem _ (List.mem_append_right _ h)) 8 (by decide) rfl (hts _ (List.mem_of_getElem? (i := 2) rfl)) dX10_puts_46 (fun v22 ev22 lv22 uv22 => ?_)
  have wv22 : v22 = v17 := ev22.symm.trans ((fi_set P18 (ne_ro ta0 tq16 (by decide))).trans ev17)
  have xv22 : v22.toInt = v17.toInt := by rw [wv22]
  refine lv_iload hx hb dX10_puts_49 (lv_at hl 5 rfl) ?_
  refine tr_iast Z.1 Z.2.2.2.1 S18.1 S18.2 hq21 tq21 rfl (by omega) (by omega) (by have := fb_rng a5; omega) (by have := fb_rng a5; omega) dX10_puts_51 (fun E23 H24 k25 W23 I23 P23 => ?_)
  have S23 : Now D TB cy (va_A (va_pl L E) sz) s L τ E23 H24 k25 := ⟨W23, I23⟩
  have F23 : Fr L τ (inW [(11, 0), (63, 0), (64, 0), (65, 0), (66, 0), (67, 0), (68, 0), (69, 0), (70, 0), (71, 0)]) E E23 := Fr.set F18 P23 tq21 rfl
  refine lv_aload_n hx hb dX10_puts_52 rfl (lv_at hl 0 rfl) ?_
  refine lv_dup hx hb dX10_puts_53 rfl ?_
  refine tr_geti Z.1 Z.2.2.2.1 S23.1 S23.2 ha0 ta0 rfl rfl (fun _ h => List.mem_cons_of_mem _ (List.mem_append_right _ h)) 8 (by decide) rfl (hts _ (List.mem_of_getElem? (i := 2) rfl)) dX10_puts_54 (fun v26 ev26 lv26 uv26 => ?_)
  have wv26 : v26 = v22 := ev26.symm.trans ((fi_set P23 (ne_ro ta0 tq21 (by decide))).trans ev22)
  have xv26 : v26.toInt = v22.toInt := by rw [wv26]
  obtain ⟨v27, ev27, tv27⟩ : ∃ v : Int32, Int32.ofInt (1) = v ∧ v.toInt = 1 := ⟨_, rfl, by decide +kernel⟩
  refine lv_iconst hx hb dX10_puts_57 ev27 ?_
  refine lv_iadd hx hb dX10_puts_58 ?_
  refine lv_topi (fun v28 ev28 => ?_)
  have tv28 := nu_add ev28 (by omega) (by omega)
  refine tr_puti Z.1 Z.2.2.2.1 S23.1 S23.2 ha0 ta0 rfl rfl (fun _ h => List.mem_cons_of_mem _ (List.mem_append_right _ h)) tyX10_ok nmX10 8 (by decide) rfl rfl rfl (hts _ (List.mem_of_getElem? (i := 2) rfl)) dX10_puts_59 (by omega) (by omega) (fun E29 H30 k31 W29 I29 P29 => ?_)
  have S29 : Now D TB cy (va_A (va_pl L E) sz) s L τ E29 H30 k31 := ⟨W29, I29⟩
  have F29 : Fr L τ (inW [(11, 0), (63, 0), (64, 0), (65, 0), (66, 0), (67, 0), (68, 0), (69, 0), (70, 0), (71, 0)]) E E29 := Fr.put F23 P29 ta0 rfl
  rw [← hQ]
  exact en_v Z S29 F29 (by rw [(fi_at P29)]; omega) dX10_puts_62

set_option maxRecDepth 20000 in
theorem ggX10_first_X10_in : GoodIn wsX10_first wsX10_in := goodIn_r _ [7] (by decide +kernel) (by decide +kernel)
set_option maxRecDepth 20000 in
theorem gX10_first_X10_in : GoodIn wsX10_first (wsV RX10 123 RX10 yX10_in wsX10_in) := goodIn_app (goodIn_of _ (by decide +kernel)) ggX10_first_X10_in
set_option maxRecDepth 20000 in
theorem ggX10_first_X10_not : GoodIn wsX10_first wsX10_not := goodIn_r _ [11, 12, 13, 24, 25, 26, 27, 28, 29, 30, 31, 32, 33, 34, 35, 36, 37, 38, 39, 40, 41, 42, 43, 44, 45, 46, 47, 48, 49, 50, 51, 52, 53, 54, 55, 56, 57, 58, 59, 60, 61, 62, 63, 64, 65, 66, 67, 68, 69, 70, 71] (by decide +kernel) (by decide +kernel)
set_option maxRecDepth 20000 in
theorem gX10_first_X10_not : GoodIn wsX10_first (wsV RX10 127 RX10 yX10_not wsX10_not) := goodIn_app (goodIn_of _ (by decide +kernel)) ggX10_first_X10_not
set_option maxRecDepth 20000 in
theorem ggX10_first_X10_act : GoodIn wsX10_first wsX10_act := goodIn_r _ [17, 18, 19, 2, 20, 21, 22, 6, 23, 12, 13, 24, 25, 26, 27, 28, 29, 30, 31, 32, 33, 34, 35, 36, 37, 38, 39, 40, 41, 42, 43, 44, 45, 46, 47, 48, 49, 50, 51, 52, 53, 54, 55, 56, 57, 58, 59, 60, 61, 62, 63, 64, 65, 66, 67, 68, 69, 70, 71] (by decide +kernel) (by decide +kernel)
set_option maxRecDepth 20000 in
theorem gX10_first_X10_act : GoodIn wsX10_first (wsV RX10 131 RX10 yX10_act wsX10_act) := goodIn_app (goodIn_of _ (by decide +kernel)) ggX10_first_X10_act
theorem dX10_first_0 : decode cX10_first 0 = .ok (.aload_n 0, 1) := by decide +kernel
theorem dX10_first_1 : decode cX10_first 1 = .ok (.iconst 0, 1) := by decide +kernel
theorem dX10_first_2 : decode cX10_first 2 = .ok (.putfield 97, 3) := by decide +kernel
theorem dX10_first_5 : decode cX10_first 5 = .ok (.aload_n 0, 1) := by decide +kernel
theorem dX10_first_6 : decode cX10_first 6 = .ok (.iload_n 1, 1) := by decide +kernel
theorem dX10_first_7 : decode cX10_first 7 = .ok (.iconst 0, 1) := by decide +kernel
theorem dX10_first_8 : decode cX10_first 8 = .ok (.iconst 1, 1) := by decide +kernel
theorem dX10_first_9 : decode cX10_first 9 = .ok (.invokevirtual 123, 3) := by decide +kernel
theorem dX10_first_12 : decode cX10_first 12 = .ok (.ifCond .ne 9, 3) := by decide +kernel
theorem dX10_first_15 : decode cX10_first 15 = .ok (.aload_n 0, 1) := by decide +kernel
theorem dX10_first_16 : decode cX10_first 16 = .ok (.iconst 1, 1) := by decide +kernel
theorem dX10_first_17 : decode cX10_first 17 = .ok (.invokevirtual 127, 3) := by decide +kernel
theorem dX10_first_20 : decode cX10_first 20 = .ok (.ireturn, 1) := by decide +kernel
theorem dX10_first_21 : decode cX10_first 21 = .ok (.aload_n 0, 1) := by decide +kernel
theorem dX10_first_22 : decode cX10_first 22 = .ok (.invokevirtual 131, 3) := by decide +kernel
theorem dX10_first_25 : decode cX10_first 25 = .ok (.aload_n 0, 1) := by decide +kernel
theorem dX10_first_26 : decode cX10_first 26 = .ok (.getfield 7, 3) := by decide +kernel
theorem dX10_first_29 : decode cX10_first 29 = .ok (.bipush 13, 2) := by decide +kernel
theorem dX10_first_31 : decode cX10_first 31 = .ok (.iload_n 1, 1) := by decide +kernel
theorem dX10_first_32 : decode cX10_first 32 = .ok (.iastore, 1) := by decide +kernel
theorem dX10_first_33 : decode cX10_first 33 = .ok (.iconst 1, 1) := by decide +kernel
theorem dX10_first_34 : decode cX10_first 34 = .ok (.ireturn, 1) := by decide +kernel
set_option maxHeartbeats 4000000 in
set_option maxRecDepth 100000 in
theorem k_X10_first (l : Launch) (D : va_G) (cy : Nat → ClassId) {L : List Nat} {τ : Nat → Ro} {E : Ec} (hI : Inv TB cy L τ E) {a0 : Nat} (ha0 : a0 ∈ L) (ta0 : τ a0 = (11, 0)) (a1 : Int32) : CtI l yX10_first wsX10_first { frames := 2, cells := 0, slots := 0, locals := 41 } D TB cy L τ E [.ref a0, .int a1] (inW [(11, 0), (60, 0), (61, 0)]) (fun r E' => ((r.toInt = 1 ∧ 0 ≤ a1.toInt ∧ a1.toInt ≤ 1) ∨ (r.toInt = 0 ∧ ¬ (0 ≤ a1.toInt ∧ a1.toInt ≤ 1))) ∧ 0 ≤ r.toInt ∧ r.toInt ≤ 1) := by
  intro sz
  refine sta (cc := cX10_first) (maxL := 2) hI (by decide) rfl (Nat.le_of_ble_eq_true rfl) (fun p e s m args below meth c ls hsz Z S0 hl => ?_)
  have hx := Z.1.1
  have hb := Z.1.2.1
  have hts := Z.1.2.2.2.2
  have F0_ : Fr L τ (inW [(11, 0), (60, 0), (61, 0)]) E E := Fr.refl
  have hl : lv_has ls 2 [(0, .ref a0), (1, .int a1)] := hl
  generalize hQ : MQ below _ args s 0 0 _ = QQ
  refine lv_aload_n hx hb dX10_first_0 rfl (lv_at hl 0 rfl) ?_
  obtain ⟨v1, ev1, tv1⟩ : ∃ v : Int32, Int32.ofInt (0) = v ∧ v.toInt = 0 := ⟨_, rfl, by decide +kernel⟩
  refine lv_iconst hx hb dX10_first_1 ev1 ?_
  refine tr_puti Z.1 Z.2.2.2.1 S0.1 S0.2 ha0 ta0 rfl rfl (fun _ h => List.mem_cons_of_mem _ (List.mem_append_right _ h)) tyX10_ok nmX10 4 (by decide) rfl rfl rfl (hts _ (List.mem_of_getElem? (i := 1) rfl)) dX10_first_2 (by omega) (by omega) (fun E2 H3 k4 W2 I2 P2 => ?_)
  have S2 : Now D TB cy (va_A (va_pl L E) sz) s L τ E2 H3 k4 := ⟨W2, I2⟩
  have F2 : Fr L τ (inW [(11, 0), (60, 0), (61, 0)]) E E2 := Fr.put F0_ P2 ta0 rfl
  refine lv_aload_n hx hb dX10_first_5 rfl (lv_at hl 0 rfl) ?_
  refine lv_iload_n hx hb dX10_first_6 rfl (lv_at hl 1 rfl) ?_
  obtain ⟨v5, ev5, tv5⟩ : ∃ v : Int32, Int32.ofInt (0) = v ∧ v.toInt = 0 := ⟨_, rfl, by decide +kernel⟩
  refine lv_iconst hx hb dX10_first_7 ev5 ?_
  obtain ⟨v6, ev6, tv6⟩ : ∃ v : Int32, Int32.ofInt (1) = v ∧ v.toInt = 1 := ⟨_, rfl, by decide +kernel⟩
  refine lv_iconst hx hb dX10_first_8 ev6 ?_
  refine tc_vi Z.1 Z.2.2.2.1 Z.2.2.2.2.1 Z.2.2.2.2.2 S2.1 S2.2 ha0 ta0 rfl rfl (k_X10_in l D cy S2.2 ha0 ta0 a1 v5 v6) (cwV 3 hts gX10_first_X10_in rfl rfl rfl (by decide +kernel) ⟨Nat.le_of_ble_eq_true rfl, Nat.le_of_ble_eq_true rfl⟩) rfl hl.1 rfl (Nat.le_of_ble_eq_true rfl) dX10_first_9 ⟨Nat.zero_le _, Nat.zero_le _⟩ (fun v10 E7 H8 k9 W7 I7 G7 p7 => ?_)
  obtain ⟨q7, p7_0, p7_1, p7_2⟩ := p7
  have q7 := q7.symm
  subst q7
  have S7 : Now D TB cy (va_A (va_pl L E) sz) s L τ E2 H8 k9 := ⟨W7, I7⟩
  refine lv_if_ne (tgt := 21) hx hb dX10_first_12 (by decide) (fun c11 => ?_) (fun c11 => ?_)
  · skip
    have tc11 := nu_ne c11
    have uc11 : (0 : Int32).toInt = 0 := rfl
    refine lv_aload_n hx hb dX10_first_21 rfl (lv_at hl 0 rfl) ?_
    refine tc_vv Z.1 Z.2.2.2.1 Z.2.2.2.2.1 Z.2.2.2.2.2 S7.1 S7.2 ha0 ta0 rfl rfl (k_X10_act l D cy S7.2 ha0 ta0) (cwV 0 hts gX10_first_X10_act rfl rfl rfl (by decide +kernel) ⟨Nat.le_of_ble_eq_true rfl, Nat.le_of_ble_eq_true rfl⟩) rfl hl.1 rfl (Nat.le_of_ble_eq_true rfl) dX10_first_22 ⟨Nat.zero_le _, Nat.zero_le _⟩ (fun E12 H13 k14 W12 I12 G12 p12 => ?_)
    have p12_0 := p12
    have S12 : Now D TB cy (va_A (va_pl L E) sz) s L τ E12 H13 k14 := ⟨W12, I12⟩
    have F12 : Fr L τ (inW [(11, 0), (60, 0), (61, 0)]) E E12 := F2.trans (G12.mono (inW_mono (by decide)))
    refine lv_aload_n hx hb dX10_first_25 rfl (lv_at hl 0 rfl) ?_
    refine tr_getr Z.1 Z.2.2.2.1 S12.1 S12.2 ha0 ta0 rfl rfl (fun _ h => List.mem_cons_of_mem _ (List.mem_append_right _ h)) 0 (by decide) rfl (hts _ (List.mem_of_getElem? (i := 2) rfl)) dX10_first_26 (fun q16 eq16 hq16 tq16 => ?_)
    have tq16 : τ q16 = (60, 0) := tq16
    obtain ⟨v17, ev17, tv17⟩ : ∃ v : Int32, (Int8.ofInt (13)).toInt32 = v ∧ v.toInt = 13 := ⟨_, rfl, by decide +kernel⟩
    refine lv_bipush hx hb dX10_first_29 ev17 ?_
    refine lv_iload_n hx hb dX10_first_31 rfl (lv_at hl 1 rfl) ?_
    have b18 : nowB v17.toNatClampNeg = (-2147483648, 2147483647) := nb_o (by show v17.toInt.toNat < 4 ∨ (8 ≤ v17.toInt.toNat ∧ v17.toInt.toNat ≤ 18) ∨ (20 ≤ v17.toInt.toNat ∧ v17.toInt.toNat ≤ 43); omega)
    have b18 : (nowB v17.toNatClampNeg).1 ≤ a1.toInt ∧ a1.toInt ≤ (nowB v17.toNatClampNeg).2 := by rw [b18]; have := fb_rng a1; show -2147483648 ≤ a1.toInt ∧ a1.toInt ≤ 2147483647; omega
    refine tr_iastx Z.1 Z.2.2.2.1 S12.1 S12.2 hq16 tq16 rfl (by omega) (by omega) b18.1 b18.2 dX10_first_32 (fun E18 H19 k20 W18 I18 P18 => ?_)
    have S18 : Now D TB cy (va_A (va_pl L E) sz) s L τ E18 H19 k20 := ⟨W18, I18⟩
    have F18 : Fr L τ (inW [(11, 0), (60, 0), (61, 0)]) E E18 := Fr.set F12 P18 tq16 rfl
    obtain ⟨v21, ev21, tv21⟩ : ∃ v : Int32, Int32.ofInt (1) = v ∧ v.toInt = 1 := ⟨_, rfl, by decide +kernel⟩
    refine lv_iconst hx hb dX10_first_33 ev21 ?_
    rw [← hQ]
    exact en_z Z S18 F18 (zo v21 (by omega)) ⟨(by omega), (by omega), (by omega)⟩ dX10_first_34
  · skip
    have tc11 := nu_eq c11
    have uc11 : (0 : Int32).toInt = 0 := rfl
    refine lv_aload_n hx hb dX10_first_15 rfl (lv_at hl 0 rfl) ?_
    obtain ⟨v22, ev22, tv22⟩ : ∃ v : Int32, Int32.ofInt (1) = v ∧ v.toInt = 1 := ⟨_, rfl, by decide +kernel⟩
    refine lv_iconst hx hb dX10_first_16 ev22 ?_
    refine tc_vi Z.1 Z.2.2.2.1 Z.2.2.2.2.1 Z.2.2.2.2.2 S7.1 S7.2 ha0 ta0 rfl rfl (k_X10_not l D cy S7.2 ha0 ta0 v22) (cwV 1 hts gX10_first_X10_not rfl rfl rfl (by decide +kernel) ⟨Nat.le_of_ble_eq_true rfl, Nat.le_of_ble_eq_true rfl⟩) rfl hl.1 rfl (Nat.le_of_ble_eq_true rfl) dX10_first_17 ⟨Nat.zero_le _, Nat.zero_le _⟩ (fun v26 E23 H24 k25 W23 I23 G23 p23 => ?_)
    obtain ⟨p23_0, p23_1, p23_2⟩ := p23
    have S23 : Now D TB cy (va_A (va_pl L E) sz) s L τ E23 H24 k25 := ⟨W23, I23⟩
    have F23 : Fr L τ (inW [(11, 0), (60, 0), (61, 0)]) E E23 := F2.trans (G23.mono (inW_mono (by decide)))
    rw [← hQ]
    exact en_z Z S23 F23 (zo v26 (by omega)) ⟨(by omega), (by omega), (by omega)⟩ dX10_first_20

set_option maxRecDepth 20000 in
theorem ggX10_turn_X10_in : GoodIn wsX10_turn wsX10_in := goodIn_r _ [7] (by decide +kernel) (by decide +kernel)
set_option maxRecDepth 20000 in
theorem gX10_turn_X10_in : GoodIn wsX10_turn (wsV RX10 123 RX10 yX10_in wsX10_in) := goodIn_app (goodIn_of _ (by decide +kernel)) ggX10_turn_X10_in
set_option maxRecDepth 20000 in
theorem ggX10_turn_X10_not : GoodIn wsX10_turn wsX10_not := goodIn_r _ [11, 12, 13, 24, 25, 26, 27, 28, 29, 30, 31, 32, 33, 34, 35, 36, 37, 38, 39, 40, 41, 42, 43, 44, 45, 46, 47, 48, 49, 50, 51, 52, 53, 54, 55, 56, 57, 58, 59, 60, 61, 62, 63, 64, 65, 66, 67, 68, 69, 70, 71] (by decide +kernel) (by decide +kernel)
set_option maxRecDepth 20000 in
theorem gX10_turn_X10_not : GoodIn wsX10_turn (wsV RX10 127 RX10 yX10_not wsX10_not) := goodIn_app (goodIn_of _ (by decide +kernel)) ggX10_turn_X10_not
set_option maxRecDepth 20000 in
theorem ggX10_turn_X10_act : GoodIn wsX10_turn wsX10_act := goodIn_r _ [17, 18, 19, 2, 20, 21, 22, 6, 23, 12, 13, 24, 25, 26, 27, 28, 29, 30, 31, 32, 33, 34, 35, 36, 37, 38, 39, 40, 41, 42, 43, 44, 45, 46, 47, 48, 49, 50, 51, 52, 53, 54, 55, 56, 57, 58, 59, 60, 61, 62, 63, 64, 65, 66, 67, 68, 69, 70, 71] (by decide +kernel) (by decide +kernel)
set_option maxRecDepth 20000 in
theorem gX10_turn_X10_act : GoodIn wsX10_turn (wsV RX10 131 RX10 yX10_act wsX10_act) := goodIn_app (goodIn_of _ (by decide +kernel)) ggX10_turn_X10_act
theorem dX10_turn_0 : decode cX10_turn 0 = .ok (.aload_n 0, 1) := by decide +kernel
theorem dX10_turn_1 : decode cX10_turn 1 = .ok (.iconst 0, 1) := by decide +kernel
theorem dX10_turn_2 : decode cX10_turn 2 = .ok (.putfield 97, 3) := by decide +kernel
theorem dX10_turn_5 : decode cX10_turn 5 = .ok (.aload_n 0, 1) := by decide +kernel
theorem dX10_turn_6 : decode cX10_turn 6 = .ok (.iload_n 1, 1) := by decide +kernel
theorem dX10_turn_7 : decode cX10_turn 7 = .ok (.iconst 0, 1) := by decide +kernel
theorem dX10_turn_8 : decode cX10_turn 8 = .ok (.aload_n 0, 1) := by decide +kernel
theorem dX10_turn_9 : decode cX10_turn 9 = .ok (.getfield 7, 3) := by decide +kernel
theorem dX10_turn_12 : decode cX10_turn 12 = .ok (.iconst 4, 1) := by decide +kernel
theorem dX10_turn_13 : decode cX10_turn 13 = .ok (.iaload, 1) := by decide +kernel
theorem dX10_turn_14 : decode cX10_turn 14 = .ok (.iconst 2, 1) := by decide +kernel
theorem dX10_turn_15 : decode cX10_turn 15 = .ok (.isub, 1) := by decide +kernel
theorem dX10_turn_16 : decode cX10_turn 16 = .ok (.invokevirtual 123, 3) := by decide +kernel
theorem dX10_turn_19 : decode cX10_turn 19 = .ok (.ifCond .ne 9, 3) := by decide +kernel
theorem dX10_turn_22 : decode cX10_turn 22 = .ok (.aload_n 0, 1) := by decide +kernel
theorem dX10_turn_23 : decode cX10_turn 23 = .ok (.iconst 4, 1) := by decide +kernel
theorem dX10_turn_24 : decode cX10_turn 24 = .ok (.invokevirtual 127, 3) := by decide +kernel
theorem dX10_turn_27 : decode cX10_turn 27 = .ok (.ireturn, 1) := by decide +kernel
theorem dX10_turn_28 : decode cX10_turn 28 = .ok (.aload_n 0, 1) := by decide +kernel
theorem dX10_turn_29 : decode cX10_turn 29 = .ok (.iload_n 2, 1) := by decide +kernel
theorem dX10_turn_30 : decode cX10_turn 30 = .ok (.iconst 0, 1) := by decide +kernel
theorem dX10_turn_31 : decode cX10_turn 31 = .ok (.iconst 1, 1) := by decide +kernel
theorem dX10_turn_32 : decode cX10_turn 32 = .ok (.invokevirtual 123, 3) := by decide +kernel
theorem dX10_turn_35 : decode cX10_turn 35 = .ok (.ifCond .ne 9, 3) := by decide +kernel
theorem dX10_turn_38 : decode cX10_turn 38 = .ok (.aload_n 0, 1) := by decide +kernel
theorem dX10_turn_39 : decode cX10_turn 39 = .ok (.iconst 1, 1) := by decide +kernel
theorem dX10_turn_40 : decode cX10_turn 40 = .ok (.invokevirtual 127, 3) := by decide +kernel
theorem dX10_turn_43 : decode cX10_turn 43 = .ok (.ireturn, 1) := by decide +kernel
theorem dX10_turn_44 : decode cX10_turn 44 = .ok (.aload_n 0, 1) := by decide +kernel
theorem dX10_turn_45 : decode cX10_turn 45 = .ok (.invokevirtual 131, 3) := by decide +kernel
theorem dX10_turn_48 : decode cX10_turn 48 = .ok (.aload_n 0, 1) := by decide +kernel
theorem dX10_turn_49 : decode cX10_turn 49 = .ok (.getfield 7, 3) := by decide +kernel
theorem dX10_turn_52 : decode cX10_turn 52 = .ok (.bipush 11, 2) := by decide +kernel
theorem dX10_turn_54 : decode cX10_turn 54 = .ok (.iload_n 1, 1) := by decide +kernel
theorem dX10_turn_55 : decode cX10_turn 55 = .ok (.iadd, 1) := by decide +kernel
theorem dX10_turn_56 : decode cX10_turn 56 = .ok (.iload_n 2, 1) := by decide +kernel
theorem dX10_turn_57 : decode cX10_turn 57 = .ok (.iastore, 1) := by decide +kernel
theorem dX10_turn_58 : decode cX10_turn 58 = .ok (.iconst 1, 1) := by decide +kernel
theorem dX10_turn_59 : decode cX10_turn 59 = .ok (.ireturn, 1) := by decide +kernel
set_option maxHeartbeats 4000000 in
set_option maxRecDepth 100000 in
theorem k_X10_turn (l : Launch) (D : va_G) (cy : Nat → ClassId) {L : List Nat} {τ : Nat → Ro} {E : Ec} (hI : Inv TB cy L τ E) {a0 : Nat} (ha0 : a0 ∈ L) (ta0 : τ a0 = (11, 0)) (a1 : Int32) (a2 : Int32) : CtI l yX10_turn wsX10_turn { frames := 2, cells := 0, slots := 0, locals := 41 } D TB cy L τ E [.ref a0, .int a1, .int a2] (inW [(11, 0), (60, 0), (61, 0)]) (fun r E' => 0 ≤ r.toInt ∧ r.toInt ≤ 1) := by
  intro sz
  refine sta (cc := cX10_turn) (maxL := 3) hI (by decide) rfl (Nat.le_of_ble_eq_true rfl) (fun p e s m args below meth c ls hsz Z S0 hl => ?_)
  have hx := Z.1.1
  have hb := Z.1.2.1
  have hts := Z.1.2.2.2.2
  have F0_ : Fr L τ (inW [(11, 0), (60, 0), (61, 0)]) E E := Fr.refl
  have hl : lv_has ls 3 [(0, .ref a0), (1, .int a1), (2, .int a2)] := hl
  generalize hQ : MQ below _ args s 0 0 _ = QQ
  refine lv_aload_n hx hb dX10_turn_0 rfl (lv_at hl 0 rfl) ?_
  obtain ⟨v1, ev1, tv1⟩ : ∃ v : Int32, Int32.ofInt (0) = v ∧ v.toInt = 0 := ⟨_, rfl, by decide +kernel⟩
  refine lv_iconst hx hb dX10_turn_1 ev1 ?_
  refine tr_puti Z.1 Z.2.2.2.1 S0.1 S0.2 ha0 ta0 rfl rfl (fun _ h => List.mem_cons_of_mem _ (List.mem_append_right _ h)) tyX10_ok nmX10 4 (by decide) rfl rfl rfl (hts _ (List.mem_of_getElem? (i := 1) rfl)) dX10_turn_2 (by omega) (by omega) (fun E2 H3 k4 W2 I2 P2 => ?_)
  have S2 : Now D TB cy (va_A (va_pl L E) sz) s L τ E2 H3 k4 := ⟨W2, I2⟩
  have F2 : Fr L τ (inW [(11, 0), (60, 0), (61, 0)]) E E2 := Fr.put F0_ P2 ta0 rfl
  refine lv_aload_n hx hb dX10_turn_5 rfl (lv_at hl 0 rfl) ?_
  refine lv_iload_n hx hb dX10_turn_6 rfl (lv_at hl 1 rfl) ?_
  obtain ⟨v5, ev5, tv5⟩ : ∃ v : Int32, Int32.ofInt (0) = v ∧ v.toInt = 0 := ⟨_, rfl, by decide +kernel⟩
  refine lv_iconst hx hb dX10_turn_7 ev5 ?_
  refine lv_aload_n hx hb dX10_turn_8 rfl (lv_at hl 0 rfl) ?_
  refine tr_getr Z.1 Z.2.2.2.1 S2.1 S2.2 ha0 ta0 rfl rfl (fun _ h => List.mem_cons_of_mem _ (List.mem_append_right _ h)) 0 (by decide) rfl (hts _ (List.mem_of_getElem? (i := 2) rfl)) dX10_turn_9 (fun q6 eq6 hq6 tq6 => ?_)
  have tq6 : τ q6 = (60, 0) := tq6
  obtain ⟨v7, ev7, tv7⟩ : ∃ v : Int32, Int32.ofInt (4) = v ∧ v.toInt = 4 := ⟨_, rfl, by decide +kernel⟩
  refine lv_iconst hx hb dX10_turn_12 ev7 ?_
  refine tr_ialdx Z.1 Z.2.2.2.1 S2.1 S2.2 hq6 tq6 rfl (by omega) (by omega) dX10_turn_13 (fun v8 ev8 lv8 uv8 => ?_)
  have bv8 : nowB v7.toNatClampNeg = (0, 3) := nb_4 (by show v7.toInt.toNat = 4; omega)
  rw [bv8] at lv8 uv8
  have lv8 : 0 ≤ v8.toInt := lv8
  have uv8 : v8.toInt ≤ 3 := uv8
  have av8 : ai E2 q6 4 = v8 := ai_at ev8 (by omega)
  obtain ⟨v9, ev9, tv9⟩ : ∃ v : Int32, Int32.ofInt (2) = v ∧ v.toInt = 2 := ⟨_, rfl, by decide +kernel⟩
  refine lv_iconst hx hb dX10_turn_14 ev9 ?_
  refine lv_isub hx hb dX10_turn_15 ?_
  refine lv_topi (fun v10 ev10 => ?_)
  have tv10 := nu_sub ev10 (by omega) (by omega)
  refine tc_vi Z.1 Z.2.2.2.1 Z.2.2.2.2.1 Z.2.2.2.2.2 S2.1 S2.2 ha0 ta0 rfl rfl (k_X10_in l D cy S2.2 ha0 ta0 a1 v5 v10) (cwV 3 hts gX10_turn_X10_in rfl rfl rfl (by decide +kernel) ⟨Nat.le_of_ble_eq_true rfl, Nat.le_of_ble_eq_true rfl⟩) rfl hl.1 rfl (Nat.le_of_ble_eq_true rfl) dX10_turn_16 ⟨Nat.zero_le _, Nat.zero_le _⟩ (fun v14 E11 H12 k13 W11 I11 G11 p11 => ?_)
  obtain ⟨q11, p11_0, p11_1, p11_2⟩ := p11
  have q11 := q11.symm
  subst q11
  have S11 : Now D TB cy (va_A (va_pl L E) sz) s L τ E2 H12 k13 := ⟨W11, I11⟩
  refine lv_if_ne (tgt := 28) hx hb dX10_turn_19 (by decide) (fun c15 => ?_) (fun c15 => ?_)
  · skip
    have tc15 := nu_ne c15
    have uc15 : (0 : Int32).toInt = 0 := rfl
    refine lv_aload_n hx hb dX10_turn_28 rfl (lv_at hl 0 rfl) ?_
    refine lv_iload_n hx hb dX10_turn_29 rfl (lv_at hl 2 rfl) ?_
    obtain ⟨v16, ev16, tv16⟩ : ∃ v : Int32, Int32.ofInt (0) = v ∧ v.toInt = 0 := ⟨_, rfl, by decide +kernel⟩
    refine lv_iconst hx hb dX10_turn_30 ev16 ?_
    obtain ⟨v17, ev17, tv17⟩ : ∃ v : Int32, Int32.ofInt (1) = v ∧ v.toInt = 1 := ⟨_, rfl, by decide +kernel⟩
    refine lv_iconst hx hb dX10_turn_31 ev17 ?_
    refine tc_vi Z.1 Z.2.2.2.1 Z.2.2.2.2.1 Z.2.2.2.2.2 S11.1 S11.2 ha0 ta0 rfl rfl (k_X10_in l D cy S11.2 ha0 ta0 a2 v16 v17) (cwV 3 hts gX10_turn_X10_in rfl rfl rfl (by decide +kernel) ⟨Nat.le_of_ble_eq_true rfl, Nat.le_of_ble_eq_true rfl⟩) rfl hl.1 rfl (Nat.le_of_ble_eq_true rfl) dX10_turn_32 ⟨Nat.zero_le _, Nat.zero_le _⟩ (fun v21 E18 H19 k20 W18 I18 G18 p18 => ?_)
    obtain ⟨q18, p18_0, p18_1, p18_2⟩ := p18
    have q18 := q18.symm
    subst q18
    have S18 : Now D TB cy (va_A (va_pl L E) sz) s L τ E2 H19 k20 := ⟨W18, I18⟩
    refine lv_if_ne (tgt := 44) hx hb dX10_turn_35 (by decide) (fun c22 => ?_) (fun c22 => ?_)
    · skip
      have tc22 := nu_ne c22
      have uc22 : (0 : Int32).toInt = 0 := rfl
      refine lv_aload_n hx hb dX10_turn_44 rfl (lv_at hl 0 rfl) ?_
      refine tc_vv Z.1 Z.2.2.2.1 Z.2.2.2.2.1 Z.2.2.2.2.2 S18.1 S18.2 ha0 ta0 rfl rfl (k_X10_act l D cy S18.2 ha0 ta0) (cwV 0 hts gX10_turn_X10_act rfl rfl rfl (by decide +kernel) ⟨Nat.le_of_ble_eq_true rfl, Nat.le_of_ble_eq_true rfl⟩) rfl hl.1 rfl (Nat.le_of_ble_eq_true rfl) dX10_turn_45 ⟨Nat.zero_le _, Nat.zero_le _⟩ (fun E23 H24 k25 W23 I23 G23 p23 => ?_)
      have p23_0 := p23
      have S23 : Now D TB cy (va_A (va_pl L E) sz) s L τ E23 H24 k25 := ⟨W23, I23⟩
      have F23 : Fr L τ (inW [(11, 0), (60, 0), (61, 0)]) E E23 := F2.trans (G23.mono (inW_mono (by decide)))
      refine lv_aload_n hx hb dX10_turn_48 rfl (lv_at hl 0 rfl) ?_
      refine tr_getr Z.1 Z.2.2.2.1 S23.1 S23.2 ha0 ta0 rfl rfl (fun _ h => List.mem_cons_of_mem _ (List.mem_append_right _ h)) 0 (by decide) rfl (hts _ (List.mem_of_getElem? (i := 2) rfl)) dX10_turn_49 (fun q27 eq27 hq27 tq27 => ?_)
      have tq27 : τ q27 = (60, 0) := tq27
      have uq27 : q6 = q27 := S23.2.2.2.2 _ hq6 _ hq27 (tq6.trans tq27.symm) (by rw [tq6]; rfl)
      subst uq27
      obtain ⟨v28, ev28, tv28⟩ : ∃ v : Int32, (Int8.ofInt (11)).toInt32 = v ∧ v.toInt = 11 := ⟨_, rfl, by decide +kernel⟩
      refine lv_bipush hx hb dX10_turn_52 ev28 ?_
      refine lv_iload_n hx hb dX10_turn_54 rfl (lv_at hl 1 rfl) ?_
      refine lv_iadd hx hb dX10_turn_55 ?_
      refine lv_topi (fun v29 ev29 => ?_)
      have tv29 := nu_add ev29 (by omega) (by omega)
      refine lv_iload_n hx hb dX10_turn_56 rfl (lv_at hl 2 rfl) ?_
      have b30 : nowB v29.toNatClampNeg = (-2147483648, 2147483647) := nb_o (by show v29.toInt.toNat < 4 ∨ (8 ≤ v29.toInt.toNat ∧ v29.toInt.toNat ≤ 18) ∨ (20 ≤ v29.toInt.toNat ∧ v29.toInt.toNat ≤ 43); omega)
      have b30 : (nowB v29.toNatClampNeg).1 ≤ a2.toInt ∧ a2.toInt ≤ (nowB v29.toNatClampNeg).2 := by rw [b30]; have := fb_rng a2; show -2147483648 ≤ a2.toInt ∧ a2.toInt ≤ 2147483647; omega
      refine tr_iastx Z.1 Z.2.2.2.1 S23.1 S23.2 hq6 tq6 rfl (by omega) (by omega) b30.1 b30.2 dX10_turn_57 (fun E30 H31 k32 W30 I30 P30 => ?_)
      have S30 : Now D TB cy (va_A (va_pl L E) sz) s L τ E30 H31 k32 := ⟨W30, I30⟩
      have F30 : Fr L τ (inW [(11, 0), (60, 0), (61, 0)]) E E30 := Fr.set F23 P30 tq6 rfl
      obtain ⟨v33, ev33, tv33⟩ : ∃ v : Int32, Int32.ofInt (1) = v ∧ v.toInt = 1 := ⟨_, rfl, by decide +kernel⟩
      refine lv_iconst hx hb dX10_turn_58 ev33 ?_
      rw [← hQ]
      exact en_z Z S30 F30 (zo v33 (by omega)) ⟨(by omega), (by omega)⟩ dX10_turn_59
    · skip
      have tc22 := nu_eq c22
      have uc22 : (0 : Int32).toInt = 0 := rfl
      refine lv_aload_n hx hb dX10_turn_38 rfl (lv_at hl 0 rfl) ?_
      obtain ⟨v34, ev34, tv34⟩ : ∃ v : Int32, Int32.ofInt (1) = v ∧ v.toInt = 1 := ⟨_, rfl, by decide +kernel⟩
      refine lv_iconst hx hb dX10_turn_39 ev34 ?_
      refine tc_vi Z.1 Z.2.2.2.1 Z.2.2.2.2.1 Z.2.2.2.2.2 S18.1 S18.2 ha0 ta0 rfl rfl (k_X10_not l D cy S18.2 ha0 ta0 v34) (cwV 1 hts gX10_turn_X10_not rfl rfl rfl (by decide +kernel) ⟨Nat.le_of_ble_eq_true rfl, Nat.le_of_ble_eq_true rfl⟩) rfl hl.1 rfl (Nat.le_of_ble_eq_true rfl) dX10_turn_40 ⟨Nat.zero_le _, Nat.zero_le _⟩ (fun v38 E35 H36 k37 W35 I35 G35 p35 => ?_)
      obtain ⟨p35_0, p35_1, p35_2⟩ := p35
      have S35 : Now D TB cy (va_A (va_pl L E) sz) s L τ E35 H36 k37 := ⟨W35, I35⟩
      have F35 : Fr L τ (inW [(11, 0), (60, 0), (61, 0)]) E E35 := F2.trans (G35.mono (inW_mono (by decide)))
      rw [← hQ]
      exact en_z Z S35 F35 (zo v38 (by omega)) ⟨(by omega), (by omega)⟩ dX10_turn_43
  · skip
    have tc15 := nu_eq c15
    have uc15 : (0 : Int32).toInt = 0 := rfl
    refine lv_aload_n hx hb dX10_turn_22 rfl (lv_at hl 0 rfl) ?_
    obtain ⟨v39, ev39, tv39⟩ : ∃ v : Int32, Int32.ofInt (4) = v ∧ v.toInt = 4 := ⟨_, rfl, by decide +kernel⟩
    refine lv_iconst hx hb dX10_turn_23 ev39 ?_
    refine tc_vi Z.1 Z.2.2.2.1 Z.2.2.2.2.1 Z.2.2.2.2.2 S11.1 S11.2 ha0 ta0 rfl rfl (k_X10_not l D cy S11.2 ha0 ta0 v39) (cwV 1 hts gX10_turn_X10_not rfl rfl rfl (by decide +kernel) ⟨Nat.le_of_ble_eq_true rfl, Nat.le_of_ble_eq_true rfl⟩) rfl hl.1 rfl (Nat.le_of_ble_eq_true rfl) dX10_turn_24 ⟨Nat.zero_le _, Nat.zero_le _⟩ (fun v43 E40 H41 k42 W40 I40 G40 p40 => ?_)
    obtain ⟨p40_0, p40_1, p40_2⟩ := p40
    have S40 : Now D TB cy (va_A (va_pl L E) sz) s L τ E40 H41 k42 := ⟨W40, I40⟩
    have F40 : Fr L τ (inW [(11, 0), (60, 0), (61, 0)]) E E40 := F2.trans (G40.mono (inW_mono (by decide)))
    rw [← hQ]
    exact en_z Z S40 F40 (zo v43 (by omega)) ⟨(by omega), (by omega)⟩ dX10_turn_27

set_option maxRecDepth 20000 in
theorem ggX10_price_X10_in : GoodIn wsX10_price wsX10_in := goodIn_r _ [7] (by decide +kernel) (by decide +kernel)
set_option maxRecDepth 20000 in
theorem gX10_price_X10_in : GoodIn wsX10_price (wsV RX10 123 RX10 yX10_in wsX10_in) := goodIn_app (goodIn_of _ (by decide +kernel)) ggX10_price_X10_in
set_option maxRecDepth 20000 in
theorem ggX10_price_X10_not : GoodIn wsX10_price wsX10_not := goodIn_r _ [11, 12, 13, 24, 25, 26, 27, 28, 29, 30, 31, 32, 33, 34, 35, 36, 37, 38, 39, 40, 41, 42, 43, 44, 45, 46, 47, 48, 49, 50, 51, 52, 53, 54, 55, 56, 57, 58, 59, 60, 61, 62, 63, 64, 65, 66, 67, 68, 69, 70, 71] (by decide +kernel) (by decide +kernel)
set_option maxRecDepth 20000 in
theorem gX10_price_X10_not : GoodIn wsX10_price (wsV RX10 127 RX10 yX10_not wsX10_not) := goodIn_app (goodIn_of _ (by decide +kernel)) ggX10_price_X10_not
set_option maxRecDepth 20000 in
theorem ggX10_price_X10_act : GoodIn wsX10_price wsX10_act := goodIn_r _ [17, 18, 19, 2, 20, 21, 22, 6, 23, 12, 13, 24, 25, 26, 27, 28, 29, 30, 31, 32, 33, 34, 35, 36, 37, 38, 39, 40, 41, 42, 43, 44, 45, 46, 47, 48, 49, 50, 51, 52, 53, 54, 55, 56, 57, 58, 59, 60, 61, 62, 63, 64, 65, 66, 67, 68, 69, 70, 71] (by decide +kernel) (by decide +kernel)
set_option maxRecDepth 20000 in
theorem gX10_price_X10_act : GoodIn wsX10_price (wsV RX10 131 RX10 yX10_act wsX10_act) := goodIn_app (goodIn_of _ (by decide +kernel)) ggX10_price_X10_act
theorem dX10_price_0 : decode cX10_price 0 = .ok (.aload_n 0, 1) := by decide +kernel
theorem dX10_price_1 : decode cX10_price 1 = .ok (.iconst 0, 1) := by decide +kernel
theorem dX10_price_2 : decode cX10_price 2 = .ok (.putfield 97, 3) := by decide +kernel
theorem dX10_price_5 : decode cX10_price 5 = .ok (.aload_n 0, 1) := by decide +kernel
theorem dX10_price_6 : decode cX10_price 6 = .ok (.iload_n 1, 1) := by decide +kernel
theorem dX10_price_7 : decode cX10_price 7 = .ok (.iconst 0, 1) := by decide +kernel
theorem dX10_price_8 : decode cX10_price 8 = .ok (.iconst 4, 1) := by decide +kernel
theorem dX10_price_9 : decode cX10_price 9 = .ok (.invokevirtual 123, 3) := by decide +kernel
theorem dX10_price_12 : decode cX10_price 12 = .ok (.ifCond .eq 15, 3) := by decide +kernel
theorem dX10_price_15 : decode cX10_price 15 = .ok (.aload_n 0, 1) := by decide +kernel
theorem dX10_price_16 : decode cX10_price 16 = .ok (.iload_n 2, 1) := by decide +kernel
theorem dX10_price_17 : decode cX10_price 17 = .ok (.iconst 0, 1) := by decide +kernel
theorem dX10_price_18 : decode cX10_price 18 = .ok (.sipush 10000, 3) := by decide +kernel
theorem dX10_price_21 : decode cX10_price 21 = .ok (.invokevirtual 123, 3) := by decide +kernel
theorem dX10_price_24 : decode cX10_price 24 = .ok (.ifCond .ne 9, 3) := by decide +kernel
theorem dX10_price_27 : decode cX10_price 27 = .ok (.aload_n 0, 1) := by decide +kernel
theorem dX10_price_28 : decode cX10_price 28 = .ok (.iconst 1, 1) := by decide +kernel
theorem dX10_price_29 : decode cX10_price 29 = .ok (.invokevirtual 127, 3) := by decide +kernel
theorem dX10_price_32 : decode cX10_price 32 = .ok (.ireturn, 1) := by decide +kernel
theorem dX10_price_33 : decode cX10_price 33 = .ok (.aload_n 0, 1) := by decide +kernel
theorem dX10_price_34 : decode cX10_price 34 = .ok (.invokevirtual 131, 3) := by decide +kernel
theorem dX10_price_37 : decode cX10_price 37 = .ok (.aload_n 0, 1) := by decide +kernel
theorem dX10_price_38 : decode cX10_price 38 = .ok (.getfield 7, 3) := by decide +kernel
theorem dX10_price_41 : decode cX10_price 41 = .ok (.bipush 14, 2) := by decide +kernel
theorem dX10_price_43 : decode cX10_price 43 = .ok (.iload_n 1, 1) := by decide +kernel
theorem dX10_price_44 : decode cX10_price 44 = .ok (.iadd, 1) := by decide +kernel
theorem dX10_price_45 : decode cX10_price 45 = .ok (.iload_n 2, 1) := by decide +kernel
theorem dX10_price_46 : decode cX10_price 46 = .ok (.iastore, 1) := by decide +kernel
theorem dX10_price_47 : decode cX10_price 47 = .ok (.iconst 1, 1) := by decide +kernel
theorem dX10_price_48 : decode cX10_price 48 = .ok (.ireturn, 1) := by decide +kernel
set_option maxHeartbeats 4000000 in
set_option maxRecDepth 100000 in
theorem k_X10_price (l : Launch) (D : va_G) (cy : Nat → ClassId) {L : List Nat} {τ : Nat → Ro} {E : Ec} (hI : Inv TB cy L τ E) {a0 : Nat} (ha0 : a0 ∈ L) (ta0 : τ a0 = (11, 0)) (a1 : Int32) (a2 : Int32) : CtI l yX10_price wsX10_price { frames := 2, cells := 0, slots := 0, locals := 41 } D TB cy L τ E [.ref a0, .int a1, .int a2] (inW [(11, 0), (60, 0), (61, 0)]) (fun r E' => 0 ≤ r.toInt ∧ r.toInt ≤ 1) := by
  intro sz
  refine sta (cc := cX10_price) (maxL := 3) hI (by decide) rfl (Nat.le_of_ble_eq_true rfl) (fun p e s m args below meth c ls hsz Z S0 hl => ?_)
  have hx := Z.1.1
  have hb := Z.1.2.1
  have hts := Z.1.2.2.2.2
  have F0_ : Fr L τ (inW [(11, 0), (60, 0), (61, 0)]) E E := Fr.refl
  have hl : lv_has ls 3 [(0, .ref a0), (1, .int a1), (2, .int a2)] := hl
  generalize hQ : MQ below _ args s 0 0 _ = QQ
  have J27 : ∀  (E_27 : Ec) (H_27 : Heap) (k_27 : List Loc) (l_27 : Array Slot), Now D TB cy (va_A (va_pl L E) sz) s L τ E_27 H_27 k_27 → Fr L τ (inW [(11, 0), (60, 0), (61, 0)]) E E_27 → lv_has l_27 3 [(0, .ref a0)] → W p l e { frames := 2, cells := 0, slots := 0, locals := 41 } s m args below meth c H_27 k_27 0 0 QQ (F0 m 27 l_27 []) := by
    intro  E_27 H_27 k_27 l_27 S_27 F_27  hl_27
    refine lv_aload_n hx hb dX10_price_27 rfl (lv_at hl_27 0 rfl) ?_
    obtain ⟨v1, ev1, tv1⟩ : ∃ v : Int32, Int32.ofInt (1) = v ∧ v.toInt = 1 := ⟨_, rfl, by decide +kernel⟩
    refine lv_iconst hx hb dX10_price_28 ev1 ?_
    refine tc_vi Z.1 Z.2.2.2.1 Z.2.2.2.2.1 Z.2.2.2.2.2 S_27.1 S_27.2 ha0 ta0 rfl rfl (k_X10_not l D cy S_27.2 ha0 ta0 v1) (cwV 1 hts gX10_price_X10_not rfl rfl rfl (by decide +kernel) ⟨Nat.le_of_ble_eq_true rfl, Nat.le_of_ble_eq_true rfl⟩) rfl hl_27.1 rfl (Nat.le_of_ble_eq_true rfl) dX10_price_29 ⟨Nat.zero_le _, Nat.zero_le _⟩ (fun v5 E2 H3 k4 W2 I2 G2 p2 => ?_)
    obtain ⟨p2_0, p2_1, p2_2⟩ := p2
    have S2 : Now D TB cy (va_A (va_pl L E) sz) s L τ E2 H3 k4 := ⟨W2, I2⟩
    have F2 : Fr L τ (inW [(11, 0), (60, 0), (61, 0)]) E E2 := F_27.trans (G2.mono (inW_mono (by decide)))
    rw [← hQ]
    exact en_z Z S2 F2 (zo v5 (by omega)) ⟨(by omega), (by omega)⟩ dX10_price_32
  refine lv_aload_n hx hb dX10_price_0 rfl (lv_at hl 0 rfl) ?_
  obtain ⟨v6, ev6, tv6⟩ : ∃ v : Int32, Int32.ofInt (0) = v ∧ v.toInt = 0 := ⟨_, rfl, by decide +kernel⟩
  refine lv_iconst hx hb dX10_price_1 ev6 ?_
  refine tr_puti Z.1 Z.2.2.2.1 S0.1 S0.2 ha0 ta0 rfl rfl (fun _ h => List.mem_cons_of_mem _ (List.mem_append_right _ h)) tyX10_ok nmX10 4 (by decide) rfl rfl rfl (hts _ (List.mem_of_getElem? (i := 1) rfl)) dX10_price_2 (by omega) (by omega) (fun E7 H8 k9 W7 I7 P7 => ?_)
  have S7 : Now D TB cy (va_A (va_pl L E) sz) s L τ E7 H8 k9 := ⟨W7, I7⟩
  have F7 : Fr L τ (inW [(11, 0), (60, 0), (61, 0)]) E E7 := Fr.put F0_ P7 ta0 rfl
  refine lv_aload_n hx hb dX10_price_5 rfl (lv_at hl 0 rfl) ?_
  refine lv_iload_n hx hb dX10_price_6 rfl (lv_at hl 1 rfl) ?_
  obtain ⟨v10, ev10, tv10⟩ : ∃ v : Int32, Int32.ofInt (0) = v ∧ v.toInt = 0 := ⟨_, rfl, by decide +kernel⟩
  refine lv_iconst hx hb dX10_price_7 ev10 ?_
  obtain ⟨v11, ev11, tv11⟩ : ∃ v : Int32, Int32.ofInt (4) = v ∧ v.toInt = 4 := ⟨_, rfl, by decide +kernel⟩
  refine lv_iconst hx hb dX10_price_8 ev11 ?_
  refine tc_vi Z.1 Z.2.2.2.1 Z.2.2.2.2.1 Z.2.2.2.2.2 S7.1 S7.2 ha0 ta0 rfl rfl (k_X10_in l D cy S7.2 ha0 ta0 a1 v10 v11) (cwV 3 hts gX10_price_X10_in rfl rfl rfl (by decide +kernel) ⟨Nat.le_of_ble_eq_true rfl, Nat.le_of_ble_eq_true rfl⟩) rfl hl.1 rfl (Nat.le_of_ble_eq_true rfl) dX10_price_9 ⟨Nat.zero_le _, Nat.zero_le _⟩ (fun v15 E12 H13 k14 W12 I12 G12 p12 => ?_)
  obtain ⟨q12, p12_0, p12_1, p12_2⟩ := p12
  have q12 := q12.symm
  subst q12
  have S12 : Now D TB cy (va_A (va_pl L E) sz) s L τ E7 H13 k14 := ⟨W12, I12⟩
  refine lv_if_eq (tgt := 27) hx hb dX10_price_12 (by decide) (fun c16 => ?_) (fun c16 => ?_)
  · skip
    have tc16 := nu_eq c16
    have uc16 : (0 : Int32).toInt = 0 := rfl
    exact J27 E7 H13 k14 ls S12 F7 (lv_sub hl [0] rfl)
  · skip
    have tc16 := nu_ne c16
    have uc16 : (0 : Int32).toInt = 0 := rfl
    refine lv_aload_n hx hb dX10_price_15 rfl (lv_at hl 0 rfl) ?_
    refine lv_iload_n hx hb dX10_price_16 rfl (lv_at hl 2 rfl) ?_
    obtain ⟨v17, ev17, tv17⟩ : ∃ v : Int32, Int32.ofInt (0) = v ∧ v.toInt = 0 := ⟨_, rfl, by decide +kernel⟩
    refine lv_iconst hx hb dX10_price_17 ev17 ?_
    obtain ⟨v18, ev18, tv18⟩ : ∃ v : Int32, (Int16.ofInt (10000)).toInt32 = v ∧ v.toInt = 10000 := ⟨_, rfl, by decide +kernel⟩
    refine lv_sipush hx hb dX10_price_18 ev18 ?_
    refine tc_vi Z.1 Z.2.2.2.1 Z.2.2.2.2.1 Z.2.2.2.2.2 S12.1 S12.2 ha0 ta0 rfl rfl (k_X10_in l D cy S12.2 ha0 ta0 a2 v17 v18) (cwV 3 hts gX10_price_X10_in rfl rfl rfl (by decide +kernel) ⟨Nat.le_of_ble_eq_true rfl, Nat.le_of_ble_eq_true rfl⟩) rfl hl.1 rfl (Nat.le_of_ble_eq_true rfl) dX10_price_21 ⟨Nat.zero_le _, Nat.zero_le _⟩ (fun v22 E19 H20 k21 W19 I19 G19 p19 => ?_)
    obtain ⟨q19, p19_0, p19_1, p19_2⟩ := p19
    have q19 := q19.symm
    subst q19
    have S19 : Now D TB cy (va_A (va_pl L E) sz) s L τ E7 H20 k21 := ⟨W19, I19⟩
    refine lv_if_ne (tgt := 33) hx hb dX10_price_24 (by decide) (fun c23 => ?_) (fun c23 => ?_)
    · skip
      have tc23 := nu_ne c23
      have uc23 : (0 : Int32).toInt = 0 := rfl
      refine lv_aload_n hx hb dX10_price_33 rfl (lv_at hl 0 rfl) ?_
      refine tc_vv Z.1 Z.2.2.2.1 Z.2.2.2.2.1 Z.2.2.2.2.2 S19.1 S19.2 ha0 ta0 rfl rfl (k_X10_act l D cy S19.2 ha0 ta0) (cwV 0 hts gX10_price_X10_act rfl rfl rfl (by decide +kernel) ⟨Nat.le_of_ble_eq_true rfl, Nat.le_of_ble_eq_true rfl⟩) rfl hl.1 rfl (Nat.le_of_ble_eq_true rfl) dX10_price_34 ⟨Nat.zero_le _, Nat.zero_le _⟩ (fun E24 H25 k26 W24 I24 G24 p24 => ?_)
      have p24_0 := p24
      have S24 : Now D TB cy (va_A (va_pl L E) sz) s L τ E24 H25 k26 := ⟨W24, I24⟩
      have F24 : Fr L τ (inW [(11, 0), (60, 0), (61, 0)]) E E24 := F7.trans (G24.mono (inW_mono (by decide)))
      refine lv_aload_n hx hb dX10_price_37 rfl (lv_at hl 0 rfl) ?_
      refine tr_getr Z.1 Z.2.2.2.1 S24.1 S24.2 ha0 ta0 rfl rfl (fun _ h => List.mem_cons_of_mem _ (List.mem_append_right _ h)) 0 (by decide) rfl (hts _ (List.mem_of_getElem? (i := 2) rfl)) dX10_price_38 (fun q28 eq28 hq28 tq28 => ?_)
      have tq28 : τ q28 = (60, 0) := tq28
      obtain ⟨v29, ev29, tv29⟩ : ∃ v : Int32, (Int8.ofInt (14)).toInt32 = v ∧ v.toInt = 14 := ⟨_, rfl, by decide +kernel⟩
      refine lv_bipush hx hb dX10_price_41 ev29 ?_
      refine lv_iload_n hx hb dX10_price_43 rfl (lv_at hl 1 rfl) ?_
      refine lv_iadd hx hb dX10_price_44 ?_
      refine lv_topi (fun v30 ev30 => ?_)
      have tv30 := nu_add ev30 (by omega) (by omega)
      refine lv_iload_n hx hb dX10_price_45 rfl (lv_at hl 2 rfl) ?_
      have b31 : nowB v30.toNatClampNeg = (-2147483648, 2147483647) := nb_o (by show v30.toInt.toNat < 4 ∨ (8 ≤ v30.toInt.toNat ∧ v30.toInt.toNat ≤ 18) ∨ (20 ≤ v30.toInt.toNat ∧ v30.toInt.toNat ≤ 43); omega)
      have b31 : (nowB v30.toNatClampNeg).1 ≤ a2.toInt ∧ a2.toInt ≤ (nowB v30.toNatClampNeg).2 := by rw [b31]; have := fb_rng a2; show -2147483648 ≤ a2.toInt ∧ a2.toInt ≤ 2147483647; omega
      refine tr_iastx Z.1 Z.2.2.2.1 S24.1 S24.2 hq28 tq28 rfl (by omega) (by omega) b31.1 b31.2 dX10_price_46 (fun E31 H32 k33 W31 I31 P31 => ?_)
      have S31 : Now D TB cy (va_A (va_pl L E) sz) s L τ E31 H32 k33 := ⟨W31, I31⟩
      have F31 : Fr L τ (inW [(11, 0), (60, 0), (61, 0)]) E E31 := Fr.set F24 P31 tq28 rfl
      obtain ⟨v34, ev34, tv34⟩ : ∃ v : Int32, Int32.ofInt (1) = v ∧ v.toInt = 1 := ⟨_, rfl, by decide +kernel⟩
      refine lv_iconst hx hb dX10_price_47 ev34 ?_
      rw [← hQ]
      exact en_z Z S31 F31 (zo v34 (by omega)) ⟨(by omega), (by omega)⟩ dX10_price_48
    · skip
      have tc23 := nu_eq c23
      have uc23 : (0 : Int32).toInt = 0 := rfl
      exact J27 E7 H20 k21 ls S19 F7 (lv_sub hl [0] rfl)

set_option maxRecDepth 20000 in
theorem ggX10_measures_X10_in : GoodIn wsX10_measures wsX10_in := goodIn_r _ [7] (by decide +kernel) (by decide +kernel)
set_option maxRecDepth 20000 in
theorem gX10_measures_X10_in : GoodIn wsX10_measures (wsV RX10 123 RX10 yX10_in wsX10_in) := goodIn_app (goodIn_of _ (by decide +kernel)) ggX10_measures_X10_in
set_option maxRecDepth 20000 in
theorem ggX10_measures_X10_not : GoodIn wsX10_measures wsX10_not := goodIn_r _ [11, 12, 13, 24, 25, 26, 27, 28, 29, 30, 31, 32, 33, 34, 35, 36, 37, 38, 39, 40, 41, 42, 43, 44, 45, 46, 47, 48, 49, 50, 51, 52, 53, 54, 55, 56, 57, 58, 59, 60, 61, 62, 63, 64, 65, 66, 67, 68, 69, 70, 71] (by decide +kernel) (by decide +kernel)
set_option maxRecDepth 20000 in
theorem gX10_measures_X10_not : GoodIn wsX10_measures (wsV RX10 127 RX10 yX10_not wsX10_not) := goodIn_app (goodIn_of _ (by decide +kernel)) ggX10_measures_X10_not
set_option maxRecDepth 20000 in
theorem ggX10_measures_X10_act : GoodIn wsX10_measures wsX10_act := goodIn_r _ [17, 18, 19, 2, 20, 21, 22, 6, 23, 12, 13, 24, 25, 26, 27, 28, 29, 30, 31, 32, 33, 34, 35, 36, 37, 38, 39, 40, 41, 42, 43, 44, 45, 46, 47, 48, 49, 50, 51, 52, 53, 54, 55, 56, 57, 58, 59, 60, 61, 62, 63, 64, 65, 66, 67, 68, 69, 70, 71] (by decide +kernel) (by decide +kernel)
set_option maxRecDepth 20000 in
theorem gX10_measures_X10_act : GoodIn wsX10_measures (wsV RX10 131 RX10 yX10_act wsX10_act) := goodIn_app (goodIn_of _ (by decide +kernel)) ggX10_measures_X10_act
theorem dX10_measures_0 : decode cX10_measures 0 = .ok (.aload_n 0, 1) := by decide +kernel
theorem dX10_measures_1 : decode cX10_measures 1 = .ok (.iconst 0, 1) := by decide +kernel
theorem dX10_measures_2 : decode cX10_measures 2 = .ok (.putfield 97, 3) := by decide +kernel
theorem dX10_measures_5 : decode cX10_measures 5 = .ok (.aload_n 0, 1) := by decide +kernel
theorem dX10_measures_6 : decode cX10_measures 6 = .ok (.iload_n 1, 1) := by decide +kernel
theorem dX10_measures_7 : decode cX10_measures 7 = .ok (.sipush 500, 3) := by decide +kernel
theorem dX10_measures_10 : decode cX10_measures 10 = .ok (.sipush 6000, 3) := by decide +kernel
theorem dX10_measures_13 : decode cX10_measures 13 = .ok (.invokevirtual 123, 3) := by decide +kernel
theorem dX10_measures_16 : decode cX10_measures 16 = .ok (.ifCond .eq 45, 3) := by decide +kernel
theorem dX10_measures_19 : decode cX10_measures 19 = .ok (.aload_n 0, 1) := by decide +kernel
theorem dX10_measures_20 : decode cX10_measures 20 = .ok (.iload_n 2, 1) := by decide +kernel
theorem dX10_measures_21 : decode cX10_measures 21 = .ok (.sipush 500, 3) := by decide +kernel
theorem dX10_measures_24 : decode cX10_measures 24 = .ok (.sipush 1500, 3) := by decide +kernel
theorem dX10_measures_27 : decode cX10_measures 27 = .ok (.invokevirtual 123, 3) := by decide +kernel
theorem dX10_measures_30 : decode cX10_measures 30 = .ok (.ifCond .eq 31, 3) := by decide +kernel
theorem dX10_measures_33 : decode cX10_measures 33 = .ok (.aload_n 0, 1) := by decide +kernel
theorem dX10_measures_34 : decode cX10_measures 34 = .ok (.iload_n 3, 1) := by decide +kernel
theorem dX10_measures_35 : decode cX10_measures 35 = .ok (.sipush 200, 3) := by decide +kernel
theorem dX10_measures_38 : decode cX10_measures 38 = .ok (.sipush 500, 3) := by decide +kernel
theorem dX10_measures_41 : decode cX10_measures 41 = .ok (.invokevirtual 123, 3) := by decide +kernel
theorem dX10_measures_44 : decode cX10_measures 44 = .ok (.ifCond .eq 17, 3) := by decide +kernel
theorem dX10_measures_47 : decode cX10_measures 47 = .ok (.aload_n 0, 1) := by decide +kernel
theorem dX10_measures_48 : decode cX10_measures 48 = .ok (.iload 4, 2) := by decide +kernel
theorem dX10_measures_50 : decode cX10_measures 50 = .ok (.bipush 20, 2) := by decide +kernel
theorem dX10_measures_52 : decode cX10_measures 52 = .ok (.sipush 150, 3) := by decide +kernel
theorem dX10_measures_55 : decode cX10_measures 55 = .ok (.invokevirtual 123, 3) := by decide +kernel
theorem dX10_measures_58 : decode cX10_measures 58 = .ok (.ifCond .ne 9, 3) := by decide +kernel
theorem dX10_measures_61 : decode cX10_measures 61 = .ok (.aload_n 0, 1) := by decide +kernel
theorem dX10_measures_62 : decode cX10_measures 62 = .ok (.iconst 1, 1) := by decide +kernel
theorem dX10_measures_63 : decode cX10_measures 63 = .ok (.invokevirtual 127, 3) := by decide +kernel
theorem dX10_measures_66 : decode cX10_measures 66 = .ok (.ireturn, 1) := by decide +kernel
theorem dX10_measures_67 : decode cX10_measures 67 = .ok (.aload_n 0, 1) := by decide +kernel
theorem dX10_measures_68 : decode cX10_measures 68 = .ok (.invokevirtual 131, 3) := by decide +kernel
theorem dX10_measures_71 : decode cX10_measures 71 = .ok (.aload_n 0, 1) := by decide +kernel
theorem dX10_measures_72 : decode cX10_measures 72 = .ok (.getfield 7, 3) := by decide +kernel
theorem dX10_measures_75 : decode cX10_measures 75 = .ok (.iconst 0, 1) := by decide +kernel
theorem dX10_measures_76 : decode cX10_measures 76 = .ok (.iload_n 1, 1) := by decide +kernel
theorem dX10_measures_77 : decode cX10_measures 77 = .ok (.iastore, 1) := by decide +kernel
theorem dX10_measures_78 : decode cX10_measures 78 = .ok (.aload_n 0, 1) := by decide +kernel
theorem dX10_measures_79 : decode cX10_measures 79 = .ok (.getfield 7, 3) := by decide +kernel
theorem dX10_measures_82 : decode cX10_measures 82 = .ok (.iconst 1, 1) := by decide +kernel
theorem dX10_measures_83 : decode cX10_measures 83 = .ok (.iload_n 2, 1) := by decide +kernel
theorem dX10_measures_84 : decode cX10_measures 84 = .ok (.iastore, 1) := by decide +kernel
theorem dX10_measures_85 : decode cX10_measures 85 = .ok (.aload_n 0, 1) := by decide +kernel
theorem dX10_measures_86 : decode cX10_measures 86 = .ok (.getfield 7, 3) := by decide +kernel
theorem dX10_measures_89 : decode cX10_measures 89 = .ok (.iconst 2, 1) := by decide +kernel
theorem dX10_measures_90 : decode cX10_measures 90 = .ok (.iload_n 3, 1) := by decide +kernel
theorem dX10_measures_91 : decode cX10_measures 91 = .ok (.iastore, 1) := by decide +kernel
theorem dX10_measures_92 : decode cX10_measures 92 = .ok (.aload_n 0, 1) := by decide +kernel
theorem dX10_measures_93 : decode cX10_measures 93 = .ok (.getfield 7, 3) := by decide +kernel
theorem dX10_measures_96 : decode cX10_measures 96 = .ok (.iconst 3, 1) := by decide +kernel
theorem dX10_measures_97 : decode cX10_measures 97 = .ok (.iload 4, 2) := by decide +kernel
theorem dX10_measures_99 : decode cX10_measures 99 = .ok (.iastore, 1) := by decide +kernel
theorem dX10_measures_100 : decode cX10_measures 100 = .ok (.iconst 1, 1) := by decide +kernel
theorem dX10_measures_101 : decode cX10_measures 101 = .ok (.ireturn, 1) := by decide +kernel
set_option maxHeartbeats 4000000 in
set_option maxRecDepth 100000 in
theorem k_X10_measures (l : Launch) (D : va_G) (cy : Nat → ClassId) {L : List Nat} {τ : Nat → Ro} {E : Ec} (hI : Inv TB cy L τ E) {a0 : Nat} (ha0 : a0 ∈ L) (ta0 : τ a0 = (11, 0)) (a1 : Int32) (a2 : Int32) (a3 : Int32) (a4 : Int32) : CtI l yX10_measures wsX10_measures { frames := 2, cells := 0, slots := 0, locals := 41 } D TB cy L τ E [.ref a0, .int a1, .int a2, .int a3, .int a4] (inW [(11, 0), (60, 0), (61, 0)]) (fun r E' => 0 ≤ r.toInt ∧ r.toInt ≤ 1) := by
  intro sz
  refine sta (cc := cX10_measures) (maxL := 5) hI (by decide) rfl (Nat.le_of_ble_eq_true rfl) (fun p e s m args below meth c ls hsz Z S0 hl => ?_)
  have hx := Z.1.1
  have hb := Z.1.2.1
  have hts := Z.1.2.2.2.2
  have F0_ : Fr L τ (inW [(11, 0), (60, 0), (61, 0)]) E E := Fr.refl
  have hl : lv_has ls 5 [(0, .ref a0), (1, .int a1), (2, .int a2), (3, .int a3), (4, .int a4)] := hl
  generalize hQ : MQ below _ args s 0 0 _ = QQ
  have J61 : ∀  (E_61 : Ec) (H_61 : Heap) (k_61 : List Loc) (l_61 : Array Slot), Now D TB cy (va_A (va_pl L E) sz) s L τ E_61 H_61 k_61 → Fr L τ (inW [(11, 0), (60, 0), (61, 0)]) E E_61 → lv_has l_61 5 [(0, .ref a0)] → W p l e { frames := 2, cells := 0, slots := 0, locals := 41 } s m args below meth c H_61 k_61 0 0 QQ (F0 m 61 l_61 []) := by
    intro  E_61 H_61 k_61 l_61 S_61 F_61  hl_61
    refine lv_aload_n hx hb dX10_measures_61 rfl (lv_at hl_61 0 rfl) ?_
    obtain ⟨v1, ev1, tv1⟩ : ∃ v : Int32, Int32.ofInt (1) = v ∧ v.toInt = 1 := ⟨_, rfl, by decide +kernel⟩
    refine lv_iconst hx hb dX10_measures_62 ev1 ?_
    refine tc_vi Z.1 Z.2.2.2.1 Z.2.2.2.2.1 Z.2.2.2.2.2 S_61.1 S_61.2 ha0 ta0 rfl rfl (k_X10_not l D cy S_61.2 ha0 ta0 v1) (cwV 1 hts gX10_measures_X10_not rfl rfl rfl (by decide +kernel) ⟨Nat.le_of_ble_eq_true rfl, Nat.le_of_ble_eq_true rfl⟩) rfl hl_61.1 rfl (Nat.le_of_ble_eq_true rfl) dX10_measures_63 ⟨Nat.zero_le _, Nat.zero_le _⟩ (fun v5 E2 H3 k4 W2 I2 G2 p2 => ?_)
    obtain ⟨p2_0, p2_1, p2_2⟩ := p2
    have S2 : Now D TB cy (va_A (va_pl L E) sz) s L τ E2 H3 k4 := ⟨W2, I2⟩
    have F2 : Fr L τ (inW [(11, 0), (60, 0), (61, 0)]) E E2 := F_61.trans (G2.mono (inW_mono (by decide)))
    rw [← hQ]
    exact en_z Z S2 F2 (zo v5 (by omega)) ⟨(by omega), (by omega)⟩ dX10_measures_66
  refine lv_aload_n hx hb dX10_measures_0 rfl (lv_at hl 0 rfl) ?_
  obtain ⟨v6, ev6, tv6⟩ : ∃ v : Int32, Int32.ofInt (0) = v ∧ v.toInt = 0 := ⟨_, rfl, by decide +kernel⟩
  refine lv_iconst hx hb dX10_measures_1 ev6 ?_
  refine tr_puti Z.1 Z.2.2.2.1 S0.1 S0.2 ha0 ta0 rfl rfl (fun _ h => List.mem_cons_of_mem _ (List.mem_append_right _ h)) tyX10_ok nmX10 4 (by decide) rfl rfl rfl (hts _ (List.mem_of_getElem? (i := 1) rfl)) dX10_measures_2 (by omega) (by omega) (fun E7 H8 k9 W7 I7 P7 => ?_)
  have S7 : Now D TB cy (va_A (va_pl L E) sz) s L τ E7 H8 k9 := ⟨W7, I7⟩
  have F7 : Fr L τ (inW [(11, 0), (60, 0), (61, 0)]) E E7 := Fr.put F0_ P7 ta0 rfl
  refine lv_aload_n hx hb dX10_measures_5 rfl (lv_at hl 0 rfl) ?_
  refine lv_iload_n hx hb dX10_measures_6 rfl (lv_at hl 1 rfl) ?_
  obtain ⟨v10, ev10, tv10⟩ : ∃ v : Int32, (Int16.ofInt (500)).toInt32 = v ∧ v.toInt = 500 := ⟨_, rfl, by decide +kernel⟩
  refine lv_sipush hx hb dX10_measures_7 ev10 ?_
  obtain ⟨v11, ev11, tv11⟩ : ∃ v : Int32, (Int16.ofInt (6000)).toInt32 = v ∧ v.toInt = 6000 := ⟨_, rfl, by decide +kernel⟩
  refine lv_sipush hx hb dX10_measures_10 ev11 ?_
  refine tc_vi Z.1 Z.2.2.2.1 Z.2.2.2.2.1 Z.2.2.2.2.2 S7.1 S7.2 ha0 ta0 rfl rfl (k_X10_in l D cy S7.2 ha0 ta0 a1 v10 v11) (cwV 3 hts gX10_measures_X10_in rfl rfl rfl (by decide +kernel) ⟨Nat.le_of_ble_eq_true rfl, Nat.le_of_ble_eq_true rfl⟩) rfl hl.1 rfl (Nat.le_of_ble_eq_true rfl) dX10_measures_13 ⟨Nat.zero_le _, Nat.zero_le _⟩ (fun v15 E12 H13 k14 W12 I12 G12 p12 => ?_)
  obtain ⟨q12, p12_0, p12_1, p12_2⟩ := p12
  have q12 := q12.symm
  subst q12
  have S12 : Now D TB cy (va_A (va_pl L E) sz) s L τ E7 H13 k14 := ⟨W12, I12⟩
  refine lv_if_eq (tgt := 61) hx hb dX10_measures_16 (by decide) (fun c16 => ?_) (fun c16 => ?_)
  · skip
    have tc16 := nu_eq c16
    have uc16 : (0 : Int32).toInt = 0 := rfl
    exact J61 E7 H13 k14 ls S12 F7 (lv_sub hl [0] rfl)
  · skip
    have tc16 := nu_ne c16
    have uc16 : (0 : Int32).toInt = 0 := rfl
    refine lv_aload_n hx hb dX10_measures_19 rfl (lv_at hl 0 rfl) ?_
    refine lv_iload_n hx hb dX10_measures_20 rfl (lv_at hl 2 rfl) ?_
    obtain ⟨v17, ev17, tv17⟩ : ∃ v : Int32, (Int16.ofInt (500)).toInt32 = v ∧ v.toInt = 500 := ⟨_, rfl, by decide +kernel⟩
    refine lv_sipush hx hb dX10_measures_21 ev17 ?_
    obtain ⟨v18, ev18, tv18⟩ : ∃ v : Int32, (Int16.ofInt (1500)).toInt32 = v ∧ v.toInt = 1500 := ⟨_, rfl, by decide +kernel⟩
    refine lv_sipush hx hb dX10_measures_24 ev18 ?_
    refine tc_vi Z.1 Z.2.2.2.1 Z.2.2.2.2.1 Z.2.2.2.2.2 S12.1 S12.2 ha0 ta0 rfl rfl (k_X10_in l D cy S12.2 ha0 ta0 a2 v17 v18) (cwV 3 hts gX10_measures_X10_in rfl rfl rfl (by decide +kernel) ⟨Nat.le_of_ble_eq_true rfl, Nat.le_of_ble_eq_true rfl⟩) rfl hl.1 rfl (Nat.le_of_ble_eq_true rfl) dX10_measures_27 ⟨Nat.zero_le _, Nat.zero_le _⟩ (fun v22 E19 H20 k21 W19 I19 G19 p19 => ?_)
    obtain ⟨q19, p19_0, p19_1, p19_2⟩ := p19
    have q19 := q19.symm
    subst q19
    have S19 : Now D TB cy (va_A (va_pl L E) sz) s L τ E7 H20 k21 := ⟨W19, I19⟩
    refine lv_if_eq (tgt := 61) hx hb dX10_measures_30 (by decide) (fun c23 => ?_) (fun c23 => ?_)
    · skip
      have tc23 := nu_eq c23
      have uc23 : (0 : Int32).toInt = 0 := rfl
      exact J61 E7 H20 k21 ls S19 F7 (lv_sub hl [0] rfl)
    · skip
      have tc23 := nu_ne c23
      have uc23 : (0 : Int32).toInt = 0 := rfl
      refine lv_aload_n hx hb dX10_measures_33 rfl (lv_at hl 0 rfl) ?_
      refine lv_iload_n hx hb dX10_measures_34 rfl (lv_at hl 3 rfl) ?_
      obtain ⟨v24, ev24, tv24⟩ : ∃ v : Int32, (Int16.ofInt (200)).toInt32 = v ∧ v.toInt = 200 := ⟨_, rfl, by decide +kernel⟩
      refine lv_sipush hx hb dX10_measures_35 ev24 ?_
      obtain ⟨v25, ev25, tv25⟩ : ∃ v : Int32, (Int16.ofInt (500)).toInt32 = v ∧ v.toInt = 500 := ⟨_, rfl, by decide +kernel⟩
      refine lv_sipush hx hb dX10_measures_38 ev25 ?_
      refine tc_vi Z.1 Z.2.2.2.1 Z.2.2.2.2.1 Z.2.2.2.2.2 S19.1 S19.2 ha0 ta0 rfl rfl (k_X10_in l D cy S19.2 ha0 ta0 a3 v24 v25) (cwV 3 hts gX10_measures_X10_in rfl rfl rfl (by decide +kernel) ⟨Nat.le_of_ble_eq_true rfl, Nat.le_of_ble_eq_true rfl⟩) rfl hl.1 rfl (Nat.le_of_ble_eq_true rfl) dX10_measures_41 ⟨Nat.zero_le _, Nat.zero_le _⟩ (fun v29 E26 H27 k28 W26 I26 G26 p26 => ?_)
      obtain ⟨q26, p26_0, p26_1, p26_2⟩ := p26
      have q26 := q26.symm
      subst q26
      have S26 : Now D TB cy (va_A (va_pl L E) sz) s L τ E7 H27 k28 := ⟨W26, I26⟩
      refine lv_if_eq (tgt := 61) hx hb dX10_measures_44 (by decide) (fun c30 => ?_) (fun c30 => ?_)
      · skip
        have tc30 := nu_eq c30
        have uc30 : (0 : Int32).toInt = 0 := rfl
        exact J61 E7 H27 k28 ls S26 F7 (lv_sub hl [0] rfl)
      · skip
        have tc30 := nu_ne c30
        have uc30 : (0 : Int32).toInt = 0 := rfl
        refine lv_aload_n hx hb dX10_measures_47 rfl (lv_at hl 0 rfl) ?_
        refine lv_iload hx hb dX10_measures_48 (lv_at hl 4 rfl) ?_
        obtain ⟨v31, ev31, tv31⟩ : ∃ v : Int32, (Int8.ofInt (20)).toInt32 = v ∧ v.toInt = 20 := ⟨_, rfl, by decide +kernel⟩
        refine lv_bipush hx hb dX10_measures_50 ev31 ?_
        obtain ⟨v32, ev32, tv32⟩ : ∃ v : Int32, (Int16.ofInt (150)).toInt32 = v ∧ v.toInt = 150 := ⟨_, rfl, by decide +kernel⟩
        refine lv_sipush hx hb dX10_measures_52 ev32 ?_
        refine tc_vi Z.1 Z.2.2.2.1 Z.2.2.2.2.1 Z.2.2.2.2.2 S26.1 S26.2 ha0 ta0 rfl rfl (k_X10_in l D cy S26.2 ha0 ta0 a4 v31 v32) (cwV 3 hts gX10_measures_X10_in rfl rfl rfl (by decide +kernel) ⟨Nat.le_of_ble_eq_true rfl, Nat.le_of_ble_eq_true rfl⟩) rfl hl.1 rfl (Nat.le_of_ble_eq_true rfl) dX10_measures_55 ⟨Nat.zero_le _, Nat.zero_le _⟩ (fun v36 E33 H34 k35 W33 I33 G33 p33 => ?_)
        obtain ⟨q33, p33_0, p33_1, p33_2⟩ := p33
        have q33 := q33.symm
        subst q33
        have S33 : Now D TB cy (va_A (va_pl L E) sz) s L τ E7 H34 k35 := ⟨W33, I33⟩
        refine lv_if_ne (tgt := 67) hx hb dX10_measures_58 (by decide) (fun c37 => ?_) (fun c37 => ?_)
        · skip
          have tc37 := nu_ne c37
          have uc37 : (0 : Int32).toInt = 0 := rfl
          refine lv_aload_n hx hb dX10_measures_67 rfl (lv_at hl 0 rfl) ?_
          refine tc_vv Z.1 Z.2.2.2.1 Z.2.2.2.2.1 Z.2.2.2.2.2 S33.1 S33.2 ha0 ta0 rfl rfl (k_X10_act l D cy S33.2 ha0 ta0) (cwV 0 hts gX10_measures_X10_act rfl rfl rfl (by decide +kernel) ⟨Nat.le_of_ble_eq_true rfl, Nat.le_of_ble_eq_true rfl⟩) rfl hl.1 rfl (Nat.le_of_ble_eq_true rfl) dX10_measures_68 ⟨Nat.zero_le _, Nat.zero_le _⟩ (fun E38 H39 k40 W38 I38 G38 p38 => ?_)
          have p38_0 := p38
          have S38 : Now D TB cy (va_A (va_pl L E) sz) s L τ E38 H39 k40 := ⟨W38, I38⟩
          have F38 : Fr L τ (inW [(11, 0), (60, 0), (61, 0)]) E E38 := F7.trans (G38.mono (inW_mono (by decide)))
          refine lv_aload_n hx hb dX10_measures_71 rfl (lv_at hl 0 rfl) ?_
          refine tr_getr Z.1 Z.2.2.2.1 S38.1 S38.2 ha0 ta0 rfl rfl (fun _ h => List.mem_cons_of_mem _ (List.mem_append_right _ h)) 0 (by decide) rfl (hts _ (List.mem_of_getElem? (i := 2) rfl)) dX10_measures_72 (fun q42 eq42 hq42 tq42 => ?_)
          have tq42 : τ q42 = (60, 0) := tq42
          obtain ⟨v43, ev43, tv43⟩ : ∃ v : Int32, Int32.ofInt (0) = v ∧ v.toInt = 0 := ⟨_, rfl, by decide +kernel⟩
          refine lv_iconst hx hb dX10_measures_75 ev43 ?_
          refine lv_iload_n hx hb dX10_measures_76 rfl (lv_at hl 1 rfl) ?_
          have b44 : nowB v43.toNatClampNeg = (-2147483648, 2147483647) := nb_o (by show v43.toInt.toNat < 4 ∨ (8 ≤ v43.toInt.toNat ∧ v43.toInt.toNat ≤ 18) ∨ (20 ≤ v43.toInt.toNat ∧ v43.toInt.toNat ≤ 43); omega)
          have b44 : (nowB v43.toNatClampNeg).1 ≤ a1.toInt ∧ a1.toInt ≤ (nowB v43.toNatClampNeg).2 := by rw [b44]; have := fb_rng a1; show -2147483648 ≤ a1.toInt ∧ a1.toInt ≤ 2147483647; omega
          refine tr_iastx Z.1 Z.2.2.2.1 S38.1 S38.2 hq42 tq42 rfl (by omega) (by omega) b44.1 b44.2 dX10_measures_77 (fun E44 H45 k46 W44 I44 P44 => ?_)
          have S44 : Now D TB cy (va_A (va_pl L E) sz) s L τ E44 H45 k46 := ⟨W44, I44⟩
          have F44 : Fr L τ (inW [(11, 0), (60, 0), (61, 0)]) E E44 := Fr.set F38 P44 tq42 rfl
          refine lv_aload_n hx hb dX10_measures_78 rfl (lv_at hl 0 rfl) ?_
          refine tr_getr Z.1 Z.2.2.2.1 S44.1 S44.2 ha0 ta0 rfl rfl (fun _ h => List.mem_cons_of_mem _ (List.mem_append_right _ h)) 0 (by decide) rfl (hts _ (List.mem_of_getElem? (i := 2) rfl)) dX10_measures_79 (fun q47 eq47 hq47 tq47 => ?_)
          have tq47 : τ q47 = (60, 0) := tq47
          have uq47 : q42 = q47 := S44.2.2.2.2 _ hq42 _ hq47 (tq42.trans tq47.symm) (by rw [tq42]; rfl)
          subst uq47
          obtain ⟨v48, ev48, tv48⟩ : ∃ v : Int32, Int32.ofInt (1) = v ∧ v.toInt = 1 := ⟨_, rfl, by decide +kernel⟩
          refine lv_iconst hx hb dX10_measures_82 ev48 ?_
          refine lv_iload_n hx hb dX10_measures_83 rfl (lv_at hl 2 rfl) ?_
          have b49 : nowB v48.toNatClampNeg = (-2147483648, 2147483647) := nb_o (by show v48.toInt.toNat < 4 ∨ (8 ≤ v48.toInt.toNat ∧ v48.toInt.toNat ≤ 18) ∨ (20 ≤ v48.toInt.toNat ∧ v48.toInt.toNat ≤ 43); omega)
          have b49 : (nowB v48.toNatClampNeg).1 ≤ a2.toInt ∧ a2.toInt ≤ (nowB v48.toNatClampNeg).2 := by rw [b49]; have := fb_rng a2; show -2147483648 ≤ a2.toInt ∧ a2.toInt ≤ 2147483647; omega
          refine tr_iastx Z.1 Z.2.2.2.1 S44.1 S44.2 hq42 tq42 rfl (by omega) (by omega) b49.1 b49.2 dX10_measures_84 (fun E49 H50 k51 W49 I49 P49 => ?_)
          have S49 : Now D TB cy (va_A (va_pl L E) sz) s L τ E49 H50 k51 := ⟨W49, I49⟩
          have F49 : Fr L τ (inW [(11, 0), (60, 0), (61, 0)]) E E49 := Fr.set F44 P49 tq42 rfl
          refine lv_aload_n hx hb dX10_measures_85 rfl (lv_at hl 0 rfl) ?_
          refine tr_getr Z.1 Z.2.2.2.1 S49.1 S49.2 ha0 ta0 rfl rfl (fun _ h => List.mem_cons_of_mem _ (List.mem_append_right _ h)) 0 (by decide) rfl (hts _ (List.mem_of_getElem? (i := 2) rfl)) dX10_measures_86 (fun q52 eq52 hq52 tq52 => ?_)
          have tq52 : τ q52 = (60, 0) := tq52
          have uq52 : q42 = q52 := S49.2.2.2.2 _ hq42 _ hq52 (tq42.trans tq52.symm) (by rw [tq42]; rfl)
          subst uq52
          obtain ⟨v53, ev53, tv53⟩ : ∃ v : Int32, Int32.ofInt (2) = v ∧ v.toInt = 2 := ⟨_, rfl, by decide +kernel⟩
          refine lv_iconst hx hb dX10_measures_89 ev53 ?_
          refine lv_iload_n hx hb dX10_measures_90 rfl (lv_at hl 3 rfl) ?_
          have b54 : nowB v53.toNatClampNeg = (-2147483648, 2147483647) := nb_o (by show v53.toInt.toNat < 4 ∨ (8 ≤ v53.toInt.toNat ∧ v53.toInt.toNat ≤ 18) ∨ (20 ≤ v53.toInt.toNat ∧ v53.toInt.toNat ≤ 43); omega)
          have b54 : (nowB v53.toNatClampNeg).1 ≤ a3.toInt ∧ a3.toInt ≤ (nowB v53.toNatClampNeg).2 := by rw [b54]; have := fb_rng a3; show -2147483648 ≤ a3.toInt ∧ a3.toInt ≤ 2147483647; omega
          refine tr_iastx Z.1 Z.2.2.2.1 S49.1 S49.2 hq42 tq42 rfl (by omega) (by omega) b54.1 b54.2 dX10_measures_91 (fun E54 H55 k56 W54 I54 P54 => ?_)
          have S54 : Now D TB cy (va_A (va_pl L E) sz) s L τ E54 H55 k56 := ⟨W54, I54⟩
          have F54 : Fr L τ (inW [(11, 0), (60, 0), (61, 0)]) E E54 := Fr.set F49 P54 tq42 rfl
          refine lv_aload_n hx hb dX10_measures_92 rfl (lv_at hl 0 rfl) ?_
          refine tr_getr Z.1 Z.2.2.2.1 S54.1 S54.2 ha0 ta0 rfl rfl (fun _ h => List.mem_cons_of_mem _ (List.mem_append_right _ h)) 0 (by decide) rfl (hts _ (List.mem_of_getElem? (i := 2) rfl)) dX10_measures_93 (fun q57 eq57 hq57 tq57 => ?_)
          have tq57 : τ q57 = (60, 0) := tq57
          have uq57 : q42 = q57 := S54.2.2.2.2 _ hq42 _ hq57 (tq42.trans tq57.symm) (by rw [tq42]; rfl)
          subst uq57
          obtain ⟨v58, ev58, tv58⟩ : ∃ v : Int32, Int32.ofInt (3) = v ∧ v.toInt = 3 := ⟨_, rfl, by decide +kernel⟩
          refine lv_iconst hx hb dX10_measures_96 ev58 ?_
          refine lv_iload hx hb dX10_measures_97 (lv_at hl 4 rfl) ?_
          have b59 : nowB v58.toNatClampNeg = (-2147483648, 2147483647) := nb_o (by show v58.toInt.toNat < 4 ∨ (8 ≤ v58.toInt.toNat ∧ v58.toInt.toNat ≤ 18) ∨ (20 ≤ v58.toInt.toNat ∧ v58.toInt.toNat ≤ 43); omega)
          have b59 : (nowB v58.toNatClampNeg).1 ≤ a4.toInt ∧ a4.toInt ≤ (nowB v58.toNatClampNeg).2 := by rw [b59]; have := fb_rng a4; show -2147483648 ≤ a4.toInt ∧ a4.toInt ≤ 2147483647; omega
          refine tr_iastx Z.1 Z.2.2.2.1 S54.1 S54.2 hq42 tq42 rfl (by omega) (by omega) b59.1 b59.2 dX10_measures_99 (fun E59 H60 k61 W59 I59 P59 => ?_)
          have S59 : Now D TB cy (va_A (va_pl L E) sz) s L τ E59 H60 k61 := ⟨W59, I59⟩
          have F59 : Fr L τ (inW [(11, 0), (60, 0), (61, 0)]) E E59 := Fr.set F54 P59 tq42 rfl
          obtain ⟨v62, ev62, tv62⟩ : ∃ v : Int32, Int32.ofInt (1) = v ∧ v.toInt = 1 := ⟨_, rfl, by decide +kernel⟩
          refine lv_iconst hx hb dX10_measures_100 ev62 ?_
          rw [← hQ]
          exact en_z Z S59 F59 (zo v62 (by omega)) ⟨(by omega), (by omega)⟩ dX10_measures_101
        · skip
          have tc37 := nu_eq c37
          have uc37 : (0 : Int32).toInt = 0 := rfl
          exact J61 E7 H34 k35 ls S33 F7 (lv_sub hl [0] rfl)

set_option maxRecDepth 20000 in
theorem ggX10_path_X10_in : GoodIn wsX10_path wsX10_in := goodIn_r _ [7] (by decide +kernel) (by decide +kernel)
set_option maxRecDepth 20000 in
theorem gX10_path_X10_in : GoodIn wsX10_path (wsV RX10 123 RX10 yX10_in wsX10_in) := goodIn_app (goodIn_of _ (by decide +kernel)) ggX10_path_X10_in
set_option maxRecDepth 20000 in
theorem ggX10_path_X10_not : GoodIn wsX10_path wsX10_not := goodIn_r _ [11, 12, 13, 24, 25, 26, 27, 28, 29, 30, 31, 32, 33, 34, 35, 36, 37, 38, 39, 40, 41, 42, 43, 44, 45, 46, 47, 48, 49, 50, 51, 52, 53, 54, 55, 56, 57, 58, 59, 60, 61, 62, 63, 64, 65, 66, 67, 68, 69, 70, 71] (by decide +kernel) (by decide +kernel)
set_option maxRecDepth 20000 in
theorem gX10_path_X10_not : GoodIn wsX10_path (wsV RX10 127 RX10 yX10_not wsX10_not) := goodIn_app (goodIn_of _ (by decide +kernel)) ggX10_path_X10_not
set_option maxRecDepth 20000 in
theorem ggX10_path_X10_act : GoodIn wsX10_path wsX10_act := goodIn_r _ [17, 18, 19, 2, 20, 21, 22, 6, 23, 12, 13, 24, 25, 26, 27, 28, 29, 30, 31, 32, 33, 34, 35, 36, 37, 38, 39, 40, 41, 42, 43, 44, 45, 46, 47, 48, 49, 50, 51, 52, 53, 54, 55, 56, 57, 58, 59, 60, 61, 62, 63, 64, 65, 66, 67, 68, 69, 70, 71] (by decide +kernel) (by decide +kernel)
set_option maxRecDepth 20000 in
theorem gX10_path_X10_act : GoodIn wsX10_path (wsV RX10 131 RX10 yX10_act wsX10_act) := goodIn_app (goodIn_of _ (by decide +kernel)) ggX10_path_X10_act
theorem dX10_path_0 : decode cX10_path 0 = .ok (.aload_n 0, 1) := by decide +kernel
theorem dX10_path_1 : decode cX10_path 1 = .ok (.iconst 0, 1) := by decide +kernel
theorem dX10_path_2 : decode cX10_path 2 = .ok (.putfield 97, 3) := by decide +kernel
theorem dX10_path_5 : decode cX10_path 5 = .ok (.aload_n 0, 1) := by decide +kernel
theorem dX10_path_6 : decode cX10_path 6 = .ok (.iload_n 1, 1) := by decide +kernel
theorem dX10_path_7 : decode cX10_path 7 = .ok (.iconst 1, 1) := by decide +kernel
theorem dX10_path_8 : decode cX10_path 8 = .ok (.iconst 3, 1) := by decide +kernel
theorem dX10_path_9 : decode cX10_path 9 = .ok (.invokevirtual 123, 3) := by decide +kernel
theorem dX10_path_12 : decode cX10_path 12 = .ok (.ifCond .ne 9, 3) := by decide +kernel
theorem dX10_path_15 : decode cX10_path 15 = .ok (.aload_n 0, 1) := by decide +kernel
theorem dX10_path_16 : decode cX10_path 16 = .ok (.iconst 1, 1) := by decide +kernel
theorem dX10_path_17 : decode cX10_path 17 = .ok (.invokevirtual 127, 3) := by decide +kernel
theorem dX10_path_20 : decode cX10_path 20 = .ok (.ireturn, 1) := by decide +kernel
theorem dX10_path_21 : decode cX10_path 21 = .ok (.aload_n 0, 1) := by decide +kernel
theorem dX10_path_22 : decode cX10_path 22 = .ok (.invokevirtual 131, 3) := by decide +kernel
theorem dX10_path_25 : decode cX10_path 25 = .ok (.aload_n 0, 1) := by decide +kernel
theorem dX10_path_26 : decode cX10_path 26 = .ok (.getfield 7, 3) := by decide +kernel
theorem dX10_path_29 : decode cX10_path 29 = .ok (.iconst 4, 1) := by decide +kernel
theorem dX10_path_30 : decode cX10_path 30 = .ok (.iload_n 1, 1) := by decide +kernel
theorem dX10_path_31 : decode cX10_path 31 = .ok (.iastore, 1) := by decide +kernel
theorem dX10_path_32 : decode cX10_path 32 = .ok (.iconst 0, 1) := by decide +kernel
theorem dX10_path_33 : decode cX10_path 33 = .ok (.istore_n 2, 1) := by decide +kernel
theorem dX10_path_34 : decode cX10_path 34 = .ok (.iload_n 2, 1) := by decide +kernel
theorem dX10_path_35 : decode cX10_path 35 = .ok (.iconst 3, 1) := by decide +kernel
theorem dX10_path_36 : decode cX10_path 36 = .ok (.if_icmp .ge 48, 3) := by decide +kernel
theorem dX10_path_39 : decode cX10_path 39 = .ok (.aload_n 0, 1) := by decide +kernel
theorem dX10_path_40 : decode cX10_path 40 = .ok (.getfield 7, 3) := by decide +kernel
theorem dX10_path_43 : decode cX10_path 43 = .ok (.iconst 5, 1) := by decide +kernel
theorem dX10_path_44 : decode cX10_path 44 = .ok (.iload_n 2, 1) := by decide +kernel
theorem dX10_path_45 : decode cX10_path 45 = .ok (.iadd, 1) := by decide +kernel
theorem dX10_path_46 : decode cX10_path 46 = .ok (.iload_n 2, 1) := by decide +kernel
theorem dX10_path_47 : decode cX10_path 47 = .ok (.iload_n 1, 1) := by decide +kernel
theorem dX10_path_48 : decode cX10_path 48 = .ok (.if_icmp .ge 7, 3) := by decide +kernel
theorem dX10_path_51 : decode cX10_path 51 = .ok (.iconst 4, 1) := by decide +kernel
theorem dX10_path_52 : decode cX10_path 52 = .ok (.goto 4, 3) := by decide +kernel
theorem dX10_path_55 : decode cX10_path 55 = .ok (.iconst 0, 1) := by decide +kernel
theorem dX10_path_56 : decode cX10_path 56 = .ok (.iastore, 1) := by decide +kernel
theorem dX10_path_57 : decode cX10_path 57 = .ok (.aload_n 0, 1) := by decide +kernel
theorem dX10_path_58 : decode cX10_path 58 = .ok (.getfield 7, 3) := by decide +kernel
theorem dX10_path_61 : decode cX10_path 61 = .ok (.bipush 8, 2) := by decide +kernel
theorem dX10_path_63 : decode cX10_path 63 = .ok (.iload_n 2, 1) := by decide +kernel
theorem dX10_path_64 : decode cX10_path 64 = .ok (.iadd, 1) := by decide +kernel
theorem dX10_path_65 : decode cX10_path 65 = .ok (.iload_n 2, 1) := by decide +kernel
theorem dX10_path_66 : decode cX10_path 66 = .ok (.iload_n 1, 1) := by decide +kernel
theorem dX10_path_67 : decode cX10_path 67 = .ok (.if_icmp .ge 9, 3) := by decide +kernel
theorem dX10_path_70 : decode cX10_path 70 = .ok (.sipush 1000, 3) := by decide +kernel
theorem dX10_path_73 : decode cX10_path 73 = .ok (.goto 4, 3) := by decide +kernel
theorem dX10_path_76 : decode cX10_path 76 = .ok (.iconst 0, 1) := by decide +kernel
theorem dX10_path_77 : decode cX10_path 77 = .ok (.iastore, 1) := by decide +kernel
theorem dX10_path_78 : decode cX10_path 78 = .ok (.iinc 2 1, 3) := by decide +kernel
theorem dX10_path_81 : decode cX10_path 81 = .ok (.goto (-47), 3) := by decide +kernel
theorem dX10_path_84 : decode cX10_path 84 = .ok (.aload_n 0, 1) := by decide +kernel
theorem dX10_path_85 : decode cX10_path 85 = .ok (.getfield 7, 3) := by decide +kernel
theorem dX10_path_88 : decode cX10_path 88 = .ok (.bipush 11, 2) := by decide +kernel
theorem dX10_path_90 : decode cX10_path 90 = .ok (.iconst 0, 1) := by decide +kernel
theorem dX10_path_91 : decode cX10_path 91 = .ok (.iastore, 1) := by decide +kernel
theorem dX10_path_92 : decode cX10_path 92 = .ok (.aload_n 0, 1) := by decide +kernel
theorem dX10_path_93 : decode cX10_path 93 = .ok (.getfield 7, 3) := by decide +kernel
theorem dX10_path_96 : decode cX10_path 96 = .ok (.bipush 12, 2) := by decide +kernel
theorem dX10_path_98 : decode cX10_path 98 = .ok (.iconst 0, 1) := by decide +kernel
theorem dX10_path_99 : decode cX10_path 99 = .ok (.iastore, 1) := by decide +kernel
theorem dX10_path_100 : decode cX10_path 100 = .ok (.iconst 1, 1) := by decide +kernel
theorem dX10_path_101 : decode cX10_path 101 = .ok (.ireturn, 1) := by decide +kernel
set_option maxHeartbeats 4000000 in
set_option maxRecDepth 100000 in
theorem k_X10_path (l : Launch) (D : va_G) (cy : Nat → ClassId) {L : List Nat} {τ : Nat → Ro} {E : Ec} (hI : Inv TB cy L τ E) {a0 : Nat} (ha0 : a0 ∈ L) (ta0 : τ a0 = (11, 0)) (a1 : Int32) : CtI l yX10_path wsX10_path { frames := 2, cells := 0, slots := 0, locals := 41 } D TB cy L τ E [.ref a0, .int a1] (inW [(11, 0), (60, 0), (61, 0)]) (fun r E' => 0 ≤ r.toInt ∧ r.toInt ≤ 1) := by
  intro sz
  refine sta (cc := cX10_path) (maxL := 3) hI (by decide) rfl (Nat.le_of_ble_eq_true rfl) (fun p e s m args below meth c ls hsz Z S0 hl => ?_)
  have hx := Z.1.1
  have hb := Z.1.2.1
  have hts := Z.1.2.2.2.2
  have F0_ : Fr L τ (inW [(11, 0), (60, 0), (61, 0)]) E E := Fr.refl
  have hl : lv_has ls 3 [(0, .ref a0), (1, .int a1)] := hl
  generalize hQ : MQ below _ args s 0 0 _ = QQ
  have J34 : ∀ (n : Nat) (x2_34 : Int32) (E_34 : Ec) (H_34 : Heap) (k_34 : List Loc) (l_34 : Array Slot), Now D TB cy (va_A (va_pl L E) sz) s L τ E_34 H_34 k_34 → Fr L τ (inW [(11, 0), (60, 0), (61, 0)]) E E_34 → (1 ≤ a1.toInt) → (a1.toInt ≤ 3) → (0 ≤ x2_34.toInt) → (x2_34.toInt ≤ 3) → (3 - x2_34.toInt).toNat < n → lv_has l_34 3 [(0, .ref a0), (1, .int a1), (2, .int x2_34)] → W p l e { frames := 2, cells := 0, slots := 0, locals := 41 } s m args below meth c H_34 k_34 0 0 QQ (F0 m 34 l_34 []) := by
    intro n
    induction n with
    | zero => intro x2_34 E_34 H_34 k_34 l_34 S_34 F_34 z1 z2 z3 z4 hm hl_34; exact absurd hm (Nat.not_lt_zero _)
    | succ n ih =>
      intro x2_34 E_34 H_34 k_34 l_34 S_34 F_34 z1 z2 z3 z4 hm hl_34
      have ih_34 := ih
      have J77 : ∀ (y0_77 : Nat) (y1_77 : Int32) (y2_77 : Int32) (E_77 : Ec) (H_77 : Heap) (k_77 : List Loc) (l_77 : Array Slot), Now D TB cy (va_A (va_pl L E) sz) s L τ E_77 H_77 k_77 → Fr L τ (inW [(11, 0), (60, 0), (61, 0)]) E E_77 → (1 ≤ a1.toInt) → (a1.toInt ≤ 3) → (0 ≤ x2_34.toInt) → (x2_34.toInt ≤ 2) → (y0_77 ∈ L) → (τ y0_77 = (60, 0)) → (8 ≤ y1_77.toInt) → (y1_77.toInt ≤ 10) → (0 ≤ y2_77.toInt) → (y2_77.toInt ≤ 1000) → lv_has l_77 3 [(0, .ref a0), (1, .int a1), (2, .int x2_34)] → W p l e { frames := 2, cells := 0, slots := 0, locals := 41 } s m args below meth c H_77 k_77 0 0 QQ (F0 m 77 l_77 [.int y2_77, .int y1_77, .ref y0_77]) := by
        intro y0_77 y1_77 y2_77 E_77 H_77 k_77 l_77 S_77 F_77 z5 z6 z7 z8 z9 z10 z11 z12 z13 z14 hl_77
        have b15 : nowB y1_77.toNatClampNeg = (-2147483648, 2147483647) := nb_o (by show y1_77.toInt.toNat < 4 ∨ (8 ≤ y1_77.toInt.toNat ∧ y1_77.toInt.toNat ≤ 18) ∨ (20 ≤ y1_77.toInt.toNat ∧ y1_77.toInt.toNat ≤ 43); omega)
        have b15 : (nowB y1_77.toNatClampNeg).1 ≤ y2_77.toInt ∧ y2_77.toInt ≤ (nowB y1_77.toNatClampNeg).2 := by rw [b15]; have := fb_rng y2_77; show -2147483648 ≤ y2_77.toInt ∧ y2_77.toInt ≤ 2147483647; omega
        refine tr_iastx Z.1 Z.2.2.2.1 S_77.1 S_77.2 z9 z10 rfl (by omega) (by omega) b15.1 b15.2 dX10_path_77 (fun E15 H16 k17 W15 I15 P15 => ?_)
        have S15 : Now D TB cy (va_A (va_pl L E) sz) s L τ E15 H16 k17 := ⟨W15, I15⟩
        have F15 : Fr L τ (inW [(11, 0), (60, 0), (61, 0)]) E E15 := Fr.set F_77 P15 z10 rfl
        obtain ⟨v18, ev18⟩ : ∃ y : Int32, x2_34 + Int32.ofInt (1) = y := ⟨_, rfl⟩
        have tv18 : v18.toInt = x2_34.toInt + (1) := by rw [← ev18]; exact (fb_addI (by rw [show (Int32.ofInt (1)).toInt = 1 from by decide +kernel]; omega) (by rw [show (Int32.ofInt (1)).toInt = 1 from by decide +kernel]; omega)).trans (by rw [show (Int32.ofInt (1)).toInt = 1 from by decide +kernel])
        refine lv_iinc (v := v18) (lv' := [(2, .int v18), (0, .ref a0), (1, .int a1)]) hx hb dX10_path_78 hl_77 (k := 2) rfl ev18 (by decide) rfl (fun l19 hl20 => ?_)
        refine lv_goto (tgt := 34) hx hb dX10_path_81 (by decide) ?_
        exact ih_34 v18 E15 H16 k17 l19 S15 F15 (by omega) (by omega) (by omega) (by omega) (by omega) (lv_sub hl20 [1, 2, 0] rfl)
      have J56 : ∀ (y0_56 : Nat) (y1_56 : Int32) (y2_56 : Int32) (E_56 : Ec) (H_56 : Heap) (k_56 : List Loc) (l_56 : Array Slot), Now D TB cy (va_A (va_pl L E) sz) s L τ E_56 H_56 k_56 → Fr L τ (inW [(11, 0), (60, 0), (61, 0)]) E E_56 → (1 ≤ a1.toInt) → (a1.toInt ≤ 3) → (0 ≤ x2_34.toInt) → (x2_34.toInt ≤ 2) → (y0_56 ∈ L) → (τ y0_56 = (60, 0)) → (5 ≤ y1_56.toInt) → (y1_56.toInt ≤ 7) → (0 ≤ y2_56.toInt) → (y2_56.toInt ≤ 4) → lv_has l_56 3 [(0, .ref a0), (1, .int a1), (2, .int x2_34)] → W p l e { frames := 2, cells := 0, slots := 0, locals := 41 } s m args below meth c H_56 k_56 0 0 QQ (F0 m 56 l_56 [.int y2_56, .int y1_56, .ref y0_56]) := by
        intro y0_56 y1_56 y2_56 E_56 H_56 k_56 l_56 S_56 F_56 z21 z22 z23 z24 z25 z26 z27 z28 z29 z30 hl_56
        have b31 : nowB y1_56.toNatClampNeg = (0, 20) := nb_5 (by show 5 ≤ y1_56.toInt.toNat ∧ y1_56.toInt.toNat ≤ 7; omega)
        have b31 : (nowB y1_56.toNatClampNeg).1 ≤ y2_56.toInt ∧ y2_56.toInt ≤ (nowB y1_56.toNatClampNeg).2 := by rw [b31]; have := fb_rng y2_56; show 0 ≤ y2_56.toInt ∧ y2_56.toInt ≤ 20; omega
        refine tr_iastx Z.1 Z.2.2.2.1 S_56.1 S_56.2 z25 z26 rfl (by omega) (by omega) b31.1 b31.2 dX10_path_56 (fun E31 H32 k33 W31 I31 P31 => ?_)
        have S31 : Now D TB cy (va_A (va_pl L E) sz) s L τ E31 H32 k33 := ⟨W31, I31⟩
        have F31 : Fr L τ (inW [(11, 0), (60, 0), (61, 0)]) E E31 := Fr.set F_56 P31 z26 rfl
        refine lv_aload_n hx hb dX10_path_57 rfl (lv_at hl_56 0 rfl) ?_
        refine tr_getr Z.1 Z.2.2.2.1 S31.1 S31.2 ha0 ta0 rfl rfl (fun _ h => List.mem_cons_of_mem _ (List.mem_append_right _ h)) 0 (by decide) rfl (hts _ (List.mem_of_getElem? (i := 2) rfl)) dX10_path_58 (fun q34 eq34 hq34 tq34 => ?_)
        have tq34 : τ q34 = (60, 0) := tq34
        obtain ⟨v35, ev35, tv35⟩ : ∃ v : Int32, (Int8.ofInt (8)).toInt32 = v ∧ v.toInt = 8 := ⟨_, rfl, by decide +kernel⟩
        refine lv_bipush hx hb dX10_path_61 ev35 ?_
        refine lv_iload_n hx hb dX10_path_63 rfl (lv_at hl_56 2 rfl) ?_
        refine lv_iadd hx hb dX10_path_64 ?_
        refine lv_topi (fun v36 ev36 => ?_)
        have tv36 := nu_add ev36 (by omega) (by omega)
        refine lv_iload_n hx hb dX10_path_65 rfl (lv_at hl_56 2 rfl) ?_
        refine lv_iload_n hx hb dX10_path_66 rfl (lv_at hl_56 1 rfl) ?_
        refine lv_icmp_ge (tgt := 76) hx hb dX10_path_67 (by decide) (fun c37 => ?_) (fun c37 => ?_)
        · skip
          have tc37 := nu_le c37
          obtain ⟨v38, ev38, tv38⟩ : ∃ v : Int32, Int32.ofInt (0) = v ∧ v.toInt = 0 := ⟨_, rfl, by decide +kernel⟩
          refine lv_iconst hx hb dX10_path_76 ev38 ?_
          exact J77 q34 v36 v38 E31 H32 k33 l_56 S31 F31 (by omega) (by omega) (by omega) (by omega) hq34 tq34 (by omega) (by omega) (by omega) (by omega) (lv_sub hl_56 [0, 1, 2] rfl)
        · skip
          have tc37 := nu_nle c37
          obtain ⟨v39, ev39, tv39⟩ : ∃ v : Int32, (Int16.ofInt (1000)).toInt32 = v ∧ v.toInt = 1000 := ⟨_, rfl, by decide +kernel⟩
          refine lv_sipush hx hb dX10_path_70 ev39 ?_
          refine lv_goto (tgt := 77) hx hb dX10_path_73 (by decide) ?_
          exact J77 q34 v36 v39 E31 H32 k33 l_56 S31 F31 (by omega) (by omega) (by omega) (by omega) hq34 tq34 (by omega) (by omega) (by omega) (by omega) (lv_sub hl_56 [0, 1, 2] rfl)
      refine lv_iload_n hx hb dX10_path_34 rfl (lv_at hl_34 2 rfl) ?_
      obtain ⟨v40, ev40, tv40⟩ : ∃ v : Int32, Int32.ofInt (3) = v ∧ v.toInt = 3 := ⟨_, rfl, by decide +kernel⟩
      refine lv_iconst hx hb dX10_path_35 ev40 ?_
      refine lv_icmp_ge (tgt := 84) hx hb dX10_path_36 (by decide) (fun c41 => ?_) (fun c41 => ?_)
      · skip
        have tc41 := nu_le c41
        refine lv_aload_n hx hb dX10_path_84 rfl (lv_at hl_34 0 rfl) ?_
        refine tr_getr Z.1 Z.2.2.2.1 S_34.1 S_34.2 ha0 ta0 rfl rfl (fun _ h => List.mem_cons_of_mem _ (List.mem_append_right _ h)) 0 (by decide) rfl (hts _ (List.mem_of_getElem? (i := 2) rfl)) dX10_path_85 (fun q42 eq42 hq42 tq42 => ?_)
        have tq42 : τ q42 = (60, 0) := tq42
        obtain ⟨v43, ev43, tv43⟩ : ∃ v : Int32, (Int8.ofInt (11)).toInt32 = v ∧ v.toInt = 11 := ⟨_, rfl, by decide +kernel⟩
        refine lv_bipush hx hb dX10_path_88 ev43 ?_
        obtain ⟨v44, ev44, tv44⟩ : ∃ v : Int32, Int32.ofInt (0) = v ∧ v.toInt = 0 := ⟨_, rfl, by decide +kernel⟩
        refine lv_iconst hx hb dX10_path_90 ev44 ?_
        have b45 : nowB v43.toNatClampNeg = (-2147483648, 2147483647) := nb_o (by show v43.toInt.toNat < 4 ∨ (8 ≤ v43.toInt.toNat ∧ v43.toInt.toNat ≤ 18) ∨ (20 ≤ v43.toInt.toNat ∧ v43.toInt.toNat ≤ 43); omega)
        have b45 : (nowB v43.toNatClampNeg).1 ≤ v44.toInt ∧ v44.toInt ≤ (nowB v43.toNatClampNeg).2 := by rw [b45]; have := fb_rng v44; show -2147483648 ≤ v44.toInt ∧ v44.toInt ≤ 2147483647; omega
        refine tr_iastx Z.1 Z.2.2.2.1 S_34.1 S_34.2 hq42 tq42 rfl (by omega) (by omega) b45.1 b45.2 dX10_path_91 (fun E45 H46 k47 W45 I45 P45 => ?_)
        have S45 : Now D TB cy (va_A (va_pl L E) sz) s L τ E45 H46 k47 := ⟨W45, I45⟩
        have F45 : Fr L τ (inW [(11, 0), (60, 0), (61, 0)]) E E45 := Fr.set F_34 P45 tq42 rfl
        refine lv_aload_n hx hb dX10_path_92 rfl (lv_at hl_34 0 rfl) ?_
        refine tr_getr Z.1 Z.2.2.2.1 S45.1 S45.2 ha0 ta0 rfl rfl (fun _ h => List.mem_cons_of_mem _ (List.mem_append_right _ h)) 0 (by decide) rfl (hts _ (List.mem_of_getElem? (i := 2) rfl)) dX10_path_93 (fun q48 eq48 hq48 tq48 => ?_)
        have tq48 : τ q48 = (60, 0) := tq48
        have uq48 : q42 = q48 := S45.2.2.2.2 _ hq42 _ hq48 (tq42.trans tq48.symm) (by rw [tq42]; rfl)
        subst uq48
        obtain ⟨v49, ev49, tv49⟩ : ∃ v : Int32, (Int8.ofInt (12)).toInt32 = v ∧ v.toInt = 12 := ⟨_, rfl, by decide +kernel⟩
        refine lv_bipush hx hb dX10_path_96 ev49 ?_
        obtain ⟨v50, ev50, tv50⟩ : ∃ v : Int32, Int32.ofInt (0) = v ∧ v.toInt = 0 := ⟨_, rfl, by decide +kernel⟩
        refine lv_iconst hx hb dX10_path_98 ev50 ?_
        have b51 : nowB v49.toNatClampNeg = (-2147483648, 2147483647) := nb_o (by show v49.toInt.toNat < 4 ∨ (8 ≤ v49.toInt.toNat ∧ v49.toInt.toNat ≤ 18) ∨ (20 ≤ v49.toInt.toNat ∧ v49.toInt.toNat ≤ 43); omega)
        have b51 : (nowB v49.toNatClampNeg).1 ≤ v50.toInt ∧ v50.toInt ≤ (nowB v49.toNatClampNeg).2 := by rw [b51]; have := fb_rng v50; show -2147483648 ≤ v50.toInt ∧ v50.toInt ≤ 2147483647; omega
        refine tr_iastx Z.1 Z.2.2.2.1 S45.1 S45.2 hq42 tq42 rfl (by omega) (by omega) b51.1 b51.2 dX10_path_99 (fun E51 H52 k53 W51 I51 P51 => ?_)
        have S51 : Now D TB cy (va_A (va_pl L E) sz) s L τ E51 H52 k53 := ⟨W51, I51⟩
        have F51 : Fr L τ (inW [(11, 0), (60, 0), (61, 0)]) E E51 := Fr.set F45 P51 tq42 rfl
        obtain ⟨v54, ev54, tv54⟩ : ∃ v : Int32, Int32.ofInt (1) = v ∧ v.toInt = 1 := ⟨_, rfl, by decide +kernel⟩
        refine lv_iconst hx hb dX10_path_100 ev54 ?_
        rw [← hQ]
        exact en_z Z S51 F51 (zo v54 (by omega)) ⟨(by omega), (by omega)⟩ dX10_path_101
      · skip
        have tc41 := nu_nle c41
        refine lv_aload_n hx hb dX10_path_39 rfl (lv_at hl_34 0 rfl) ?_
        refine tr_getr Z.1 Z.2.2.2.1 S_34.1 S_34.2 ha0 ta0 rfl rfl (fun _ h => List.mem_cons_of_mem _ (List.mem_append_right _ h)) 0 (by decide) rfl (hts _ (List.mem_of_getElem? (i := 2) rfl)) dX10_path_40 (fun q55 eq55 hq55 tq55 => ?_)
        have tq55 : τ q55 = (60, 0) := tq55
        obtain ⟨v56, ev56, tv56⟩ : ∃ v : Int32, Int32.ofInt (5) = v ∧ v.toInt = 5 := ⟨_, rfl, by decide +kernel⟩
        refine lv_iconst hx hb dX10_path_43 ev56 ?_
        refine lv_iload_n hx hb dX10_path_44 rfl (lv_at hl_34 2 rfl) ?_
        refine lv_iadd hx hb dX10_path_45 ?_
        refine lv_topi (fun v57 ev57 => ?_)
        have tv57 := nu_add ev57 (by omega) (by omega)
        refine lv_iload_n hx hb dX10_path_46 rfl (lv_at hl_34 2 rfl) ?_
        refine lv_iload_n hx hb dX10_path_47 rfl (lv_at hl_34 1 rfl) ?_
        refine lv_icmp_ge (tgt := 55) hx hb dX10_path_48 (by decide) (fun c58 => ?_) (fun c58 => ?_)
        · skip
          have tc58 := nu_le c58
          obtain ⟨v59, ev59, tv59⟩ : ∃ v : Int32, Int32.ofInt (0) = v ∧ v.toInt = 0 := ⟨_, rfl, by decide +kernel⟩
          refine lv_iconst hx hb dX10_path_55 ev59 ?_
          exact J56 q55 v57 v59 E_34 H_34 k_34 l_34 S_34 F_34 (by omega) (by omega) (by omega) (by omega) hq55 tq55 (by omega) (by omega) (by omega) (by omega) (lv_sub hl_34 [0, 1, 2] rfl)
        · skip
          have tc58 := nu_nle c58
          obtain ⟨v60, ev60, tv60⟩ : ∃ v : Int32, Int32.ofInt (4) = v ∧ v.toInt = 4 := ⟨_, rfl, by decide +kernel⟩
          refine lv_iconst hx hb dX10_path_51 ev60 ?_
          refine lv_goto (tgt := 56) hx hb dX10_path_52 (by decide) ?_
          exact J56 q55 v57 v60 E_34 H_34 k_34 l_34 S_34 F_34 (by omega) (by omega) (by omega) (by omega) hq55 tq55 (by omega) (by omega) (by omega) (by omega) (lv_sub hl_34 [0, 1, 2] rfl)
  refine lv_aload_n hx hb dX10_path_0 rfl (lv_at hl 0 rfl) ?_
  obtain ⟨v61, ev61, tv61⟩ : ∃ v : Int32, Int32.ofInt (0) = v ∧ v.toInt = 0 := ⟨_, rfl, by decide +kernel⟩
  refine lv_iconst hx hb dX10_path_1 ev61 ?_
  refine tr_puti Z.1 Z.2.2.2.1 S0.1 S0.2 ha0 ta0 rfl rfl (fun _ h => List.mem_cons_of_mem _ (List.mem_append_right _ h)) tyX10_ok nmX10 4 (by decide) rfl rfl rfl (hts _ (List.mem_of_getElem? (i := 1) rfl)) dX10_path_2 (by omega) (by omega) (fun E62 H63 k64 W62 I62 P62 => ?_)
  have S62 : Now D TB cy (va_A (va_pl L E) sz) s L τ E62 H63 k64 := ⟨W62, I62⟩
  have F62 : Fr L τ (inW [(11, 0), (60, 0), (61, 0)]) E E62 := Fr.put F0_ P62 ta0 rfl
  refine lv_aload_n hx hb dX10_path_5 rfl (lv_at hl 0 rfl) ?_
  refine lv_iload_n hx hb dX10_path_6 rfl (lv_at hl 1 rfl) ?_
  obtain ⟨v65, ev65, tv65⟩ : ∃ v : Int32, Int32.ofInt (1) = v ∧ v.toInt = 1 := ⟨_, rfl, by decide +kernel⟩
  refine lv_iconst hx hb dX10_path_7 ev65 ?_
  obtain ⟨v66, ev66, tv66⟩ : ∃ v : Int32, Int32.ofInt (3) = v ∧ v.toInt = 3 := ⟨_, rfl, by decide +kernel⟩
  refine lv_iconst hx hb dX10_path_8 ev66 ?_
  refine tc_vi Z.1 Z.2.2.2.1 Z.2.2.2.2.1 Z.2.2.2.2.2 S62.1 S62.2 ha0 ta0 rfl rfl (k_X10_in l D cy S62.2 ha0 ta0 a1 v65 v66) (cwV 3 hts gX10_path_X10_in rfl rfl rfl (by decide +kernel) ⟨Nat.le_of_ble_eq_true rfl, Nat.le_of_ble_eq_true rfl⟩) rfl hl.1 rfl (Nat.le_of_ble_eq_true rfl) dX10_path_9 ⟨Nat.zero_le _, Nat.zero_le _⟩ (fun v70 E67 H68 k69 W67 I67 G67 p67 => ?_)
  obtain ⟨q67, p67_0, p67_1, p67_2⟩ := p67
  have q67 := q67.symm
  subst q67
  have S67 : Now D TB cy (va_A (va_pl L E) sz) s L τ E62 H68 k69 := ⟨W67, I67⟩
  refine lv_if_ne (tgt := 21) hx hb dX10_path_12 (by decide) (fun c71 => ?_) (fun c71 => ?_)
  · skip
    have tc71 := nu_ne c71
    have uc71 : (0 : Int32).toInt = 0 := rfl
    refine lv_aload_n hx hb dX10_path_21 rfl (lv_at hl 0 rfl) ?_
    refine tc_vv Z.1 Z.2.2.2.1 Z.2.2.2.2.1 Z.2.2.2.2.2 S67.1 S67.2 ha0 ta0 rfl rfl (k_X10_act l D cy S67.2 ha0 ta0) (cwV 0 hts gX10_path_X10_act rfl rfl rfl (by decide +kernel) ⟨Nat.le_of_ble_eq_true rfl, Nat.le_of_ble_eq_true rfl⟩) rfl hl.1 rfl (Nat.le_of_ble_eq_true rfl) dX10_path_22 ⟨Nat.zero_le _, Nat.zero_le _⟩ (fun E72 H73 k74 W72 I72 G72 p72 => ?_)
    have p72_0 := p72
    have S72 : Now D TB cy (va_A (va_pl L E) sz) s L τ E72 H73 k74 := ⟨W72, I72⟩
    have F72 : Fr L τ (inW [(11, 0), (60, 0), (61, 0)]) E E72 := F62.trans (G72.mono (inW_mono (by decide)))
    refine lv_aload_n hx hb dX10_path_25 rfl (lv_at hl 0 rfl) ?_
    refine tr_getr Z.1 Z.2.2.2.1 S72.1 S72.2 ha0 ta0 rfl rfl (fun _ h => List.mem_cons_of_mem _ (List.mem_append_right _ h)) 0 (by decide) rfl (hts _ (List.mem_of_getElem? (i := 2) rfl)) dX10_path_26 (fun q76 eq76 hq76 tq76 => ?_)
    have tq76 : τ q76 = (60, 0) := tq76
    obtain ⟨v77, ev77, tv77⟩ : ∃ v : Int32, Int32.ofInt (4) = v ∧ v.toInt = 4 := ⟨_, rfl, by decide +kernel⟩
    refine lv_iconst hx hb dX10_path_29 ev77 ?_
    refine lv_iload_n hx hb dX10_path_30 rfl (lv_at hl 1 rfl) ?_
    have b78 : nowB v77.toNatClampNeg = (0, 3) := nb_4 (by show v77.toInt.toNat = 4; omega)
    have b78 : (nowB v77.toNatClampNeg).1 ≤ a1.toInt ∧ a1.toInt ≤ (nowB v77.toNatClampNeg).2 := by rw [b78]; have := fb_rng a1; show 0 ≤ a1.toInt ∧ a1.toInt ≤ 3; omega
    refine tr_iastx Z.1 Z.2.2.2.1 S72.1 S72.2 hq76 tq76 rfl (by omega) (by omega) b78.1 b78.2 dX10_path_31 (fun E78 H79 k80 W78 I78 P78 => ?_)
    have S78 : Now D TB cy (va_A (va_pl L E) sz) s L τ E78 H79 k80 := ⟨W78, I78⟩
    have F78 : Fr L τ (inW [(11, 0), (60, 0), (61, 0)]) E E78 := Fr.set F72 P78 tq76 rfl
    obtain ⟨v81, ev81, tv81⟩ : ∃ v : Int32, Int32.ofInt (0) = v ∧ v.toInt = 0 := ⟨_, rfl, by decide +kernel⟩
    refine lv_iconst hx hb dX10_path_32 ev81 ?_
    refine lv_istore_n (lv' := [(2, .int v81), (0, .ref a0), (1, .int a1)]) hx hb dX10_path_33 rfl hl (by decide) rfl (fun l82 hl83 => ?_)
    exact J34 _ v81 E78 H79 k80 l82 S78 F78 (by omega) (by omega) (by omega) (by omega) (Nat.lt_succ_self _) (lv_sub hl83 [1, 2, 0] rfl)
  · skip
    have tc71 := nu_eq c71
    have uc71 : (0 : Int32).toInt = 0 := rfl
    refine lv_aload_n hx hb dX10_path_15 rfl (lv_at hl 0 rfl) ?_
    obtain ⟨v84, ev84, tv84⟩ : ∃ v : Int32, Int32.ofInt (1) = v ∧ v.toInt = 1 := ⟨_, rfl, by decide +kernel⟩
    refine lv_iconst hx hb dX10_path_16 ev84 ?_
    refine tc_vi Z.1 Z.2.2.2.1 Z.2.2.2.2.1 Z.2.2.2.2.2 S67.1 S67.2 ha0 ta0 rfl rfl (k_X10_not l D cy S67.2 ha0 ta0 v84) (cwV 1 hts gX10_path_X10_not rfl rfl rfl (by decide +kernel) ⟨Nat.le_of_ble_eq_true rfl, Nat.le_of_ble_eq_true rfl⟩) rfl hl.1 rfl (Nat.le_of_ble_eq_true rfl) dX10_path_17 ⟨Nat.zero_le _, Nat.zero_le _⟩ (fun v88 E85 H86 k87 W85 I85 G85 p85 => ?_)
    obtain ⟨p85_0, p85_1, p85_2⟩ := p85
    have S85 : Now D TB cy (va_A (va_pl L E) sz) s L τ E85 H86 k87 := ⟨W85, I85⟩
    have F85 : Fr L τ (inW [(11, 0), (60, 0), (61, 0)]) E E85 := F62.trans (G85.mono (inW_mono (by decide)))
    rw [← hQ]
    exact en_z Z S85 F85 (zo v88 (by omega)) ⟨(by omega), (by omega)⟩ dX10_path_20

set_option maxRecDepth 20000 in
theorem ggX10_repeal_X10_not : GoodIn wsX10_repeal wsX10_not := goodIn_r _ [7, 8, 9, 20, 21, 22, 23, 24, 25, 26, 27, 28, 29, 30, 31, 32, 33, 34, 35, 36, 37, 38, 39, 40, 41, 42, 43, 44, 45, 46, 47, 48, 49, 50, 51, 52, 53, 54, 55, 56, 57, 58, 59, 60, 61, 62, 63, 64, 65, 66, 67] (by decide +kernel) (by decide +kernel)
set_option maxRecDepth 20000 in
theorem gX10_repeal_X10_not : GoodIn wsX10_repeal (wsV RX10 127 RX10 yX10_not wsX10_not) := goodIn_app (goodIn_of _ (by decide +kernel)) ggX10_repeal_X10_not
set_option maxRecDepth 20000 in
theorem ggX10_repeal_X10_act : GoodIn wsX10_repeal wsX10_act := goodIn_r _ [13, 14, 15, 2, 16, 17, 18, 6, 19, 8, 9, 20, 21, 22, 23, 24, 25, 26, 27, 28, 29, 30, 31, 32, 33, 34, 35, 36, 37, 38, 39, 40, 41, 42, 43, 44, 45, 46, 47, 48, 49, 50, 51, 52, 53, 54, 55, 56, 57, 58, 59, 60, 61, 62, 63, 64, 65, 66, 67] (by decide +kernel) (by decide +kernel)
set_option maxRecDepth 20000 in
theorem gX10_repeal_X10_act : GoodIn wsX10_repeal (wsV RX10 131 RX10 yX10_act wsX10_act) := goodIn_app (goodIn_of _ (by decide +kernel)) ggX10_repeal_X10_act
theorem dX10_repeal_0 : decode cX10_repeal 0 = .ok (.aload_n 0, 1) := by decide +kernel
theorem dX10_repeal_1 : decode cX10_repeal 1 = .ok (.iconst 0, 1) := by decide +kernel
theorem dX10_repeal_2 : decode cX10_repeal 2 = .ok (.putfield 97, 3) := by decide +kernel
theorem dX10_repeal_5 : decode cX10_repeal 5 = .ok (.aload_n 0, 1) := by decide +kernel
theorem dX10_repeal_6 : decode cX10_repeal 6 = .ok (.getfield 7, 3) := by decide +kernel
theorem dX10_repeal_9 : decode cX10_repeal 9 = .ok (.bipush 44, 2) := by decide +kernel
theorem dX10_repeal_11 : decode cX10_repeal 11 = .ok (.iaload, 1) := by decide +kernel
theorem dX10_repeal_12 : decode cX10_repeal 12 = .ok (.ifCond .ne 9, 3) := by decide +kernel
theorem dX10_repeal_15 : decode cX10_repeal 15 = .ok (.aload_n 0, 1) := by decide +kernel
theorem dX10_repeal_16 : decode cX10_repeal 16 = .ok (.iconst 4, 1) := by decide +kernel
theorem dX10_repeal_17 : decode cX10_repeal 17 = .ok (.invokevirtual 127, 3) := by decide +kernel
theorem dX10_repeal_20 : decode cX10_repeal 20 = .ok (.ireturn, 1) := by decide +kernel
theorem dX10_repeal_21 : decode cX10_repeal 21 = .ok (.aload_n 0, 1) := by decide +kernel
theorem dX10_repeal_22 : decode cX10_repeal 22 = .ok (.invokevirtual 131, 3) := by decide +kernel
theorem dX10_repeal_25 : decode cX10_repeal 25 = .ok (.aload_n 0, 1) := by decide +kernel
theorem dX10_repeal_26 : decode cX10_repeal 26 = .ok (.getfield 7, 3) := by decide +kernel
theorem dX10_repeal_29 : decode cX10_repeal 29 = .ok (.bipush 44, 2) := by decide +kernel
theorem dX10_repeal_31 : decode cX10_repeal 31 = .ok (.dup2, 1) := by decide +kernel
theorem dX10_repeal_32 : decode cX10_repeal 32 = .ok (.iaload, 1) := by decide +kernel
theorem dX10_repeal_33 : decode cX10_repeal 33 = .ok (.iconst 1, 1) := by decide +kernel
theorem dX10_repeal_34 : decode cX10_repeal 34 = .ok (.isub, 1) := by decide +kernel
theorem dX10_repeal_35 : decode cX10_repeal 35 = .ok (.iastore, 1) := by decide +kernel
theorem dX10_repeal_36 : decode cX10_repeal 36 = .ok (.iconst 1, 1) := by decide +kernel
theorem dX10_repeal_37 : decode cX10_repeal 37 = .ok (.ireturn, 1) := by decide +kernel
set_option maxHeartbeats 4000000 in
set_option maxRecDepth 100000 in
theorem k_X10_repeal (l : Launch) (D : va_G) (cy : Nat → ClassId) {L : List Nat} {τ : Nat → Ro} {E : Ec} (hI : Inv TB cy L τ E) {a0 : Nat} (ha0 : a0 ∈ L) (ta0 : τ a0 = (11, 0)) : CtI l yX10_repeal wsX10_repeal { frames := 2, cells := 0, slots := 0, locals := 41 } D TB cy L τ E [.ref a0] (inW [(11, 0), (60, 0), (61, 0)]) (fun r E' => 0 ≤ r.toInt ∧ r.toInt ≤ 1) := by
  intro sz
  refine sta (cc := cX10_repeal) (maxL := 1) hI (by decide) rfl (Nat.le_of_ble_eq_true rfl) (fun p e s m args below meth c ls hsz Z S0 hl => ?_)
  have hx := Z.1.1
  have hb := Z.1.2.1
  have hts := Z.1.2.2.2.2
  have F0_ : Fr L τ (inW [(11, 0), (60, 0), (61, 0)]) E E := Fr.refl
  have hl : lv_has ls 1 [(0, .ref a0)] := hl
  generalize hQ : MQ below _ args s 0 0 _ = QQ
  refine lv_aload_n hx hb dX10_repeal_0 rfl (lv_at hl 0 rfl) ?_
  obtain ⟨v1, ev1, tv1⟩ : ∃ v : Int32, Int32.ofInt (0) = v ∧ v.toInt = 0 := ⟨_, rfl, by decide +kernel⟩
  refine lv_iconst hx hb dX10_repeal_1 ev1 ?_
  refine tr_puti Z.1 Z.2.2.2.1 S0.1 S0.2 ha0 ta0 rfl rfl (fun _ h => List.mem_cons_of_mem _ (List.mem_append_right _ h)) tyX10_ok nmX10 4 (by decide) rfl rfl rfl (hts _ (List.mem_of_getElem? (i := 1) rfl)) dX10_repeal_2 (by omega) (by omega) (fun E2 H3 k4 W2 I2 P2 => ?_)
  have S2 : Now D TB cy (va_A (va_pl L E) sz) s L τ E2 H3 k4 := ⟨W2, I2⟩
  have F2 : Fr L τ (inW [(11, 0), (60, 0), (61, 0)]) E E2 := Fr.put F0_ P2 ta0 rfl
  refine lv_aload_n hx hb dX10_repeal_5 rfl (lv_at hl 0 rfl) ?_
  refine tr_getr Z.1 Z.2.2.2.1 S2.1 S2.2 ha0 ta0 rfl rfl (fun _ h => List.mem_cons_of_mem _ (List.mem_append_right _ h)) 0 (by decide) rfl (hts _ (List.mem_of_getElem? (i := 2) rfl)) dX10_repeal_6 (fun q5 eq5 hq5 tq5 => ?_)
  have tq5 : τ q5 = (60, 0) := tq5
  obtain ⟨v6, ev6, tv6⟩ : ∃ v : Int32, (Int8.ofInt (44)).toInt32 = v ∧ v.toInt = 44 := ⟨_, rfl, by decide +kernel⟩
  refine lv_bipush hx hb dX10_repeal_9 ev6 ?_
  refine tr_ialdx Z.1 Z.2.2.2.1 S2.1 S2.2 hq5 tq5 rfl (by omega) (by omega) dX10_repeal_11 (fun v7 ev7 lv7 uv7 => ?_)
  have bv7 : nowB v6.toNatClampNeg = (0, 8) := nb_44 (by show v6.toInt.toNat = 44; omega)
  rw [bv7] at lv7 uv7
  have lv7 : 0 ≤ v7.toInt := lv7
  have uv7 : v7.toInt ≤ 8 := uv7
  have av7 : ai E2 q5 44 = v7 := ai_at ev7 (by omega)
  refine lv_if_ne (tgt := 21) hx hb dX10_repeal_12 (by decide) (fun c8 => ?_) (fun c8 => ?_)
  · skip
    have tc8 := nu_ne c8
    have uc8 : (0 : Int32).toInt = 0 := rfl
    refine lv_aload_n hx hb dX10_repeal_21 rfl (lv_at hl 0 rfl) ?_
    refine tc_vv Z.1 Z.2.2.2.1 Z.2.2.2.2.1 Z.2.2.2.2.2 S2.1 S2.2 ha0 ta0 rfl rfl (k_X10_act l D cy S2.2 ha0 ta0) (cwV 0 hts gX10_repeal_X10_act rfl rfl rfl (by decide +kernel) ⟨Nat.le_of_ble_eq_true rfl, Nat.le_of_ble_eq_true rfl⟩) rfl hl.1 rfl (Nat.le_of_ble_eq_true rfl) dX10_repeal_22 ⟨Nat.zero_le _, Nat.zero_le _⟩ (fun E9 H10 k11 W9 I9 G9 p9 => ?_)
    have p9_0 := p9
    have S9 : Now D TB cy (va_A (va_pl L E) sz) s L τ E9 H10 k11 := ⟨W9, I9⟩
    have F9 : Fr L τ (inW [(11, 0), (60, 0), (61, 0)]) E E9 := F2.trans (G9.mono (inW_mono (by decide)))
    refine lv_aload_n hx hb dX10_repeal_25 rfl (lv_at hl 0 rfl) ?_
    refine tr_getr Z.1 Z.2.2.2.1 S9.1 S9.2 ha0 ta0 rfl rfl (fun _ h => List.mem_cons_of_mem _ (List.mem_append_right _ h)) 0 (by decide) rfl (hts _ (List.mem_of_getElem? (i := 2) rfl)) dX10_repeal_26 (fun q13 eq13 hq13 tq13 => ?_)
    have tq13 : τ q13 = (60, 0) := tq13
    have uq13 : q5 = q13 := S9.2.2.2.2 _ hq5 _ hq13 (tq5.trans tq13.symm) (by rw [tq5]; rfl)
    subst uq13
    obtain ⟨v14, ev14, tv14⟩ : ∃ v : Int32, (Int8.ofInt (44)).toInt32 = v ∧ v.toInt = 44 := ⟨_, rfl, by decide +kernel⟩
    refine lv_bipush hx hb dX10_repeal_29 ev14 ?_
    refine lv_dup2_11 hx hb dX10_repeal_31 rfl rfl ?_
    refine tr_ialdx Z.1 Z.2.2.2.1 S9.1 S9.2 hq5 tq5 rfl (by omega) (by omega) dX10_repeal_32 (fun v15 ev15 lv15 uv15 => ?_)
    have bv15 : nowB v14.toNatClampNeg = (0, 8) := nb_44 (by show v14.toInt.toNat = 44; omega)
    rw [bv15] at lv15 uv15
    have lv15 : 0 ≤ v15.toInt := lv15
    have uv15 : v15.toInt ≤ 8 := uv15
    have av15 : ai E9 q5 44 = v15 := ai_at ev15 (by omega)
    have wv15 : v15 = v7 := av15.symm.trans ((ai_fr G9 hq5 (by rw [tq5]; rfl)).trans av7)
    have xv15 : v15.toInt = v7.toInt := by rw [wv15]
    obtain ⟨v16, ev16, tv16⟩ : ∃ v : Int32, Int32.ofInt (1) = v ∧ v.toInt = 1 := ⟨_, rfl, by decide +kernel⟩
    refine lv_iconst hx hb dX10_repeal_33 ev16 ?_
    refine lv_isub hx hb dX10_repeal_34 ?_
    refine lv_topi (fun v17 ev17 => ?_)
    have tv17 := nu_sub ev17 (by omega) (by omega)
    have b18 : nowB v14.toNatClampNeg = (0, 8) := nb_44 (by show v14.toInt.toNat = 44; omega)
    have b18 : (nowB v14.toNatClampNeg).1 ≤ v17.toInt ∧ v17.toInt ≤ (nowB v14.toNatClampNeg).2 := by rw [b18]; have := fb_rng v17; show 0 ≤ v17.toInt ∧ v17.toInt ≤ 8; omega
    refine tr_iastx Z.1 Z.2.2.2.1 S9.1 S9.2 hq5 tq5 rfl (by omega) (by omega) b18.1 b18.2 dX10_repeal_35 (fun E18 H19 k20 W18 I18 P18 => ?_)
    have S18 : Now D TB cy (va_A (va_pl L E) sz) s L τ E18 H19 k20 := ⟨W18, I18⟩
    have F18 : Fr L τ (inW [(11, 0), (60, 0), (61, 0)]) E E18 := Fr.set F9 P18 tq5 rfl
    obtain ⟨v21, ev21, tv21⟩ : ∃ v : Int32, Int32.ofInt (1) = v ∧ v.toInt = 1 := ⟨_, rfl, by decide +kernel⟩
    refine lv_iconst hx hb dX10_repeal_36 ev21 ?_
    rw [← hQ]
    exact en_z Z S18 F18 (zo v21 (by omega)) ⟨(by omega), (by omega)⟩ dX10_repeal_37
  · skip
    have tc8 := nu_eq c8
    have uc8 : (0 : Int32).toInt = 0 := rfl
    refine lv_aload_n hx hb dX10_repeal_15 rfl (lv_at hl 0 rfl) ?_
    obtain ⟨v22, ev22, tv22⟩ : ∃ v : Int32, Int32.ofInt (4) = v ∧ v.toInt = 4 := ⟨_, rfl, by decide +kernel⟩
    refine lv_iconst hx hb dX10_repeal_16 ev22 ?_
    refine tc_vi Z.1 Z.2.2.2.1 Z.2.2.2.2.1 Z.2.2.2.2.2 S2.1 S2.2 ha0 ta0 rfl rfl (k_X10_not l D cy S2.2 ha0 ta0 v22) (cwV 1 hts gX10_repeal_X10_not rfl rfl rfl (by decide +kernel) ⟨Nat.le_of_ble_eq_true rfl, Nat.le_of_ble_eq_true rfl⟩) rfl hl.1 rfl (Nat.le_of_ble_eq_true rfl) dX10_repeal_17 ⟨Nat.zero_le _, Nat.zero_le _⟩ (fun v26 E23 H24 k25 W23 I23 G23 p23 => ?_)
    obtain ⟨p23_0, p23_1, p23_2⟩ := p23
    have S23 : Now D TB cy (va_A (va_pl L E) sz) s L τ E23 H24 k25 := ⟨W23, I23⟩
    have F23 : Fr L τ (inW [(11, 0), (60, 0), (61, 0)]) E E23 := F2.trans (G23.mono (inW_mono (by decide)))
    rw [← hQ]
    exact en_z Z S23 F23 (zo v26 (by omega)) ⟨(by omega), (by omega)⟩ dX10_repeal_20

