set_option maxRecDepth 20000 in
theorem ggX10_act_X10_good : GoodIn wsX10_act wsX10_good := goodIn_r _ [8, 9, 10, 11, 12, 13, 14, 15, 16, 17, 18, 19, 20, 21, 22, 23, 24, 25, 26, 27, 28, 29, 30, 31, 32, 33, 34, 35, 36, 37, 38, 39, 40, 41, 42, 43, 44, 45, 46, 47, 48, 49, 50, 51, 52, 53, 54, 55, 56, 57, 58] (by decide +kernel) (by decide +kernel)
set_option maxRecDepth 20000 in
theorem gX10_act_X10_good : GoodIn wsX10_act (wsV RX10 106 RX10 yX10_good wsX10_good) := goodIn_app (goodIn_of _ (by decide +kernel)) ggX10_act_X10_good
theorem dX10_act_0 : decode cX10_act 0 = .ok (.aload_n 0, 1) := by decide +kernel
theorem dX10_act_1 : decode cX10_act 1 = .ok (.getfield 103, 3) := by decide +kernel
theorem dX10_act_4 : decode cX10_act 4 = .ok (.bipush 40, 2) := by decide +kernel
theorem dX10_act_6 : decode cX10_act 6 = .ok (.if_icmp .ne 44, 3) := by decide +kernel
theorem dX10_act_9 : decode cX10_act 9 = .ok (.bipush 53, 2) := by decide +kernel
theorem dX10_act_11 : decode cX10_act 11 = .ok (.istore_n 1, 1) := by decide +kernel
theorem dX10_act_12 : decode cX10_act 12 = .ok (.iload_n 1, 1) := by decide +kernel
theorem dX10_act_13 : decode cX10_act 13 = .ok (.sipush 2120, 3) := by decide +kernel
theorem dX10_act_16 : decode cX10_act 16 = .ok (.if_icmp .ge 24, 3) := by decide +kernel
theorem dX10_act_19 : decode cX10_act 19 = .ok (.aload_n 0, 1) := by decide +kernel
theorem dX10_act_20 : decode cX10_act 20 = .ok (.getfield 13, 3) := by decide +kernel
theorem dX10_act_23 : decode cX10_act 23 = .ok (.iload_n 1, 1) := by decide +kernel
theorem dX10_act_24 : decode cX10_act 24 = .ok (.bipush 53, 2) := by decide +kernel
theorem dX10_act_26 : decode cX10_act 26 = .ok (.isub, 1) := by decide +kernel
theorem dX10_act_27 : decode cX10_act 27 = .ok (.aload_n 0, 1) := by decide +kernel
theorem dX10_act_28 : decode cX10_act 28 = .ok (.getfield 13, 3) := by decide +kernel
theorem dX10_act_31 : decode cX10_act 31 = .ok (.iload_n 1, 1) := by decide +kernel
theorem dX10_act_32 : decode cX10_act 32 = .ok (.iaload, 1) := by decide +kernel
theorem dX10_act_33 : decode cX10_act 33 = .ok (.iastore, 1) := by decide +kernel
theorem dX10_act_34 : decode cX10_act 34 = .ok (.iinc 1 1, 3) := by decide +kernel
theorem dX10_act_37 : decode cX10_act 37 = .ok (.goto (-25), 3) := by decide +kernel
theorem dX10_act_40 : decode cX10_act 40 = .ok (.aload_n 0, 1) := by decide +kernel
theorem dX10_act_41 : decode cX10_act 41 = .ok (.dup, 1) := by decide +kernel
theorem dX10_act_42 : decode cX10_act 42 = .ok (.getfield 103, 3) := by decide +kernel
theorem dX10_act_45 : decode cX10_act 45 = .ok (.iconst 1, 1) := by decide +kernel
theorem dX10_act_46 : decode cX10_act 46 = .ok (.isub, 1) := by decide +kernel
theorem dX10_act_47 : decode cX10_act 47 = .ok (.putfield 103, 3) := by decide +kernel
theorem dX10_act_50 : decode cX10_act 50 = .ok (.iconst 0, 1) := by decide +kernel
theorem dX10_act_51 : decode cX10_act 51 = .ok (.istore_n 1, 1) := by decide +kernel
theorem dX10_act_52 : decode cX10_act 52 = .ok (.iload_n 1, 1) := by decide +kernel
theorem dX10_act_53 : decode cX10_act 53 = .ok (.bipush 53, 2) := by decide +kernel
theorem dX10_act_55 : decode cX10_act 55 = .ok (.if_icmp .ge 29, 3) := by decide +kernel
theorem dX10_act_58 : decode cX10_act 58 = .ok (.aload_n 0, 1) := by decide +kernel
theorem dX10_act_59 : decode cX10_act 59 = .ok (.getfield 13, 3) := by decide +kernel
theorem dX10_act_62 : decode cX10_act 62 = .ok (.bipush 53, 2) := by decide +kernel
theorem dX10_act_64 : decode cX10_act 64 = .ok (.aload_n 0, 1) := by decide +kernel
theorem dX10_act_65 : decode cX10_act 65 = .ok (.getfield 103, 3) := by decide +kernel
theorem dX10_act_68 : decode cX10_act 68 = .ok (.imul, 1) := by decide +kernel
theorem dX10_act_69 : decode cX10_act 69 = .ok (.iload_n 1, 1) := by decide +kernel
theorem dX10_act_70 : decode cX10_act 70 = .ok (.iadd, 1) := by decide +kernel
theorem dX10_act_71 : decode cX10_act 71 = .ok (.aload_n 0, 1) := by decide +kernel
theorem dX10_act_72 : decode cX10_act 72 = .ok (.getfield 7, 3) := by decide +kernel
theorem dX10_act_75 : decode cX10_act 75 = .ok (.iload_n 1, 1) := by decide +kernel
theorem dX10_act_76 : decode cX10_act 76 = .ok (.iaload, 1) := by decide +kernel
theorem dX10_act_77 : decode cX10_act 77 = .ok (.iastore, 1) := by decide +kernel
theorem dX10_act_78 : decode cX10_act 78 = .ok (.iinc 1 1, 3) := by decide +kernel
theorem dX10_act_81 : decode cX10_act 81 = .ok (.goto (-29), 3) := by decide +kernel
theorem dX10_act_84 : decode cX10_act 84 = .ok (.aload_n 0, 1) := by decide +kernel
theorem dX10_act_85 : decode cX10_act 85 = .ok (.dup, 1) := by decide +kernel
theorem dX10_act_86 : decode cX10_act 86 = .ok (.getfield 103, 3) := by decide +kernel
theorem dX10_act_89 : decode cX10_act 89 = .ok (.iconst 1, 1) := by decide +kernel
theorem dX10_act_90 : decode cX10_act 90 = .ok (.iadd, 1) := by decide +kernel
theorem dX10_act_91 : decode cX10_act 91 = .ok (.putfield 103, 3) := by decide +kernel
theorem dX10_act_94 : decode cX10_act 94 = .ok (.aload_n 0, 1) := by decide +kernel
theorem dX10_act_95 : decode cX10_act 95 = .ok (.invokevirtual 106, 3) := by decide +kernel
theorem dX10_act_98 : decode cX10_act 98 = .ok (.return_, 1) := by decide +kernel
set_option maxHeartbeats 4000000 in
set_option maxRecDepth 100000 in
theorem k_X10_act (l : Launch) (D : va_G) (cy : Nat → ClassId) {L : List Nat} {τ : Nat → Ro} {E : Ec} (hI : Inv TB cy L τ E) {a0 : Nat} (ha0 : a0 ∈ L) (ta0 : τ a0 = (11, 0)) (hC : Chain L τ E) : CtV l yX10_act wsX10_act { frames := 1, cells := 0, slots := 0, locals := 20 } D TB cy L τ E [.ref a0] (inW [(11, 0), (61, 0)]) (fun E' => (∀ q ∈ L, τ q = (60, 0) → ∀ p ∈ L, τ p = (61, 0) → ∀ T : Nat → Int32, Link (ai E q) T → ChW E' a0 p T) ∧ (∀ k : Nat, k ∉ ([2, 3, 6] : List Nat) → fi E' a0 k = fi E a0 k)) := by
  intro sz
  refine sta (cc := cX10_act) (maxL := 2) hI (by decide) rfl (Nat.le_of_ble_eq_true rfl) (fun p e s m args below meth c ls hsz Z S0 hl => ?_)
  have hx := Z.1.1
  have hb := Z.1.2.1
  have hts := Z.1.2.2.2.2
  have F0_ : Fr L τ (inW [(11, 0), (61, 0)]) E E := Fr.refl
  have hl : lv_has ls 2 [(0, .ref a0)] := hl
  generalize hQ : MQ below _ args s 0 0 _ = QQ
  obtain ⟨qn, hqn, tqn⟩ := ref_of (k := 0) hI ha0 ta0 rfl rfl
  have tqn : τ qn = (60, 0) := tqn
  obtain ⟨qp, hqp, tqp⟩ := ref_of (k := 1) hI ha0 ta0 rfl rfl
  have tqp : τ qp = (61, 0) := tqp
  have J52 : ∀ (n : Nat) (x1_52 : Int32) (E_52 : Ec) (H_52 : Heap) (k_52 : List Loc) (l_52 : Array Slot), Now D TB cy (va_A (va_pl L E) sz) s L τ E_52 H_52 k_52 → Fr L τ (inW [(11, 0), (61, 0)]) E E_52 → (0 ≤ x1_52.toInt) → (x1_52.toInt ≤ 53) → (ChW E_52 a0 qp (ai E qn)) → (∀ j : Nat, (j : Int) < x1_52.toInt → ai E_52 qp (53 * (fi E_52 a0 2).toInt.toNat + j) = ai E qn j) → (∀ k : Nat, k ∉ ([2, 3, 6] : List Nat) → fi E_52 a0 k = fi E a0 k) → (0 ≤ (fi E_52 a0 2).toInt ∧ (fi E_52 a0 2).toInt ≤ 39) → (53 - x1_52.toInt).toNat < n → lv_has l_52 2 [(0, .ref a0), (1, .int x1_52)] → W p l e { frames := 1, cells := 0, slots := 0, locals := 20 } s m args below meth c H_52 k_52 0 0 QQ (F0 m 52 l_52 []) := by
    intro n
    induction n with
    | zero => intro x1_52 E_52 H_52 k_52 l_52 S_52 F_52 z1 z2 z3 z4 z5 z6 hm hl_52; exact absurd hm (Nat.not_lt_zero _)
    | succ n ih =>
      intro x1_52 E_52 H_52 k_52 l_52 S_52 F_52 z1 z2 z3 z4 z5 z6 hm hl_52
      have ih_52 := ih
      refine lv_iload_n hx hb dX10_act_52 rfl (lv_at hl_52 1 rfl) ?_
      obtain ⟨v7, ev7, tv7⟩ : ∃ v : Int32, (Int8.ofInt (53)).toInt32 = v ∧ v.toInt = 53 := ⟨_, rfl, by decide +kernel⟩
      refine lv_bipush hx hb dX10_act_53 ev7 ?_
      refine lv_icmp_ge (tgt := 84) hx hb dX10_act_55 (by decide) (fun c8 => ?_) (fun c8 => ?_)
      · skip
        have tc8 := nu_le c8
        refine lv_aload_n hx hb dX10_act_84 rfl (lv_at hl_52 0 rfl) ?_
        refine lv_dup hx hb dX10_act_85 rfl ?_
        refine tr_geti Z.1 Z.2.2.2.1 S_52.1 S_52.2 ha0 ta0 rfl rfl (fun _ h => List.mem_cons_of_mem _ (List.mem_append_right _ h)) 2 (by decide) rfl (hts _ (List.mem_of_getElem? (i := 1) rfl)) dX10_act_86 (fun v9 ev9 lv9 uv9 => ?_)
        have wv9 : v9 = (fi E_52 a0 2) := ev9.symm.trans rfl
        have xv9 : v9.toInt = (fi E_52 a0 2).toInt := by rw [wv9]
        obtain ⟨v10, ev10, tv10⟩ : ∃ v : Int32, Int32.ofInt (1) = v ∧ v.toInt = 1 := ⟨_, rfl, by decide +kernel⟩
        refine lv_iconst hx hb dX10_act_89 ev10 ?_
        refine lv_iadd hx hb dX10_act_90 ?_
        refine lv_topi (fun v11 ev11 => ?_)
        have tv11 := nu_add ev11 (by omega) (by omega)
        refine tr_puti Z.1 Z.2.2.2.1 S_52.1 S_52.2 ha0 ta0 rfl rfl (fun _ h => List.mem_cons_of_mem _ (List.mem_append_right _ h)) tyX10_ok nmX10 2 (by decide) rfl rfl rfl (hts _ (List.mem_of_getElem? (i := 1) rfl)) dX10_act_91 (by omega) (by omega) (fun E12 H13 k14 W12 I12 P12 => ?_)
        have S12 : Now D TB cy (va_A (va_pl L E) sz) s L τ E12 H13 k14 := ⟨W12, I12⟩
        have F12 : Fr L τ (inW [(11, 0), (61, 0)]) E E12 := Fr.put F_52 P12 ta0 rfl
        refine lv_aload_n hx hb dX10_act_94 rfl (lv_at hl_52 0 rfl) ?_
        refine tc_vv Z.1 Z.2.2.2.1 Z.2.2.2.2.1 Z.2.2.2.2.2 S12.1 S12.2 ha0 ta0 rfl rfl (k_X10_good l D cy S12.2 ha0 ta0) (cwV 0 hts gX10_act_X10_good rfl rfl rfl (by decide +kernel) ⟨Nat.le_of_ble_eq_true rfl, Nat.le_of_ble_eq_true rfl⟩) rfl hl_52.1 rfl (Nat.le_of_ble_eq_true rfl) dX10_act_95 ⟨Nat.zero_le _, Nat.zero_le _⟩ (fun E15 H16 k17 W15 I15 G15 p15 => ?_)
        have p15_0 := p15
        have S15 : Now D TB cy (va_A (va_pl L E) sz) s L τ E15 H16 k17 := ⟨W15, I15⟩
        have F15 : Fr L τ (inW [(11, 0), (61, 0)]) E E15 := F12.trans (G15.mono (inW_mono (by decide)))
        rw [← hQ]
        exact en_v Z S15 F15 ⟨(act_post S15.2 hqn tqn hqp tqp (ChW.push z3 (fun j hj => z4 j (by omega)) ((G15 qp hqp (by rw [tqp]; rfl)).trans (P12.1 qp (ne_ro tqp ta0 (by decide)))) (by rw [((p15_0 2 (by decide)).trans (fi_at P12)), ev9]; omega))), (fun k hk => ((p15_0 k (fw_sub (by decide) hk)).trans ((fi_put P12 (Or.inr (fw_ne (by decide) hk))).trans (z5 k hk))))⟩ dX10_act_98
      · skip
        have tc8 := nu_nle c8
        refine lv_aload_n hx hb dX10_act_58 rfl (lv_at hl_52 0 rfl) ?_
        refine tr_getr Z.1 Z.2.2.2.1 S_52.1 S_52.2 ha0 ta0 rfl rfl (fun _ h => List.mem_cons_of_mem _ (List.mem_append_right _ h)) 1 (by decide) rfl (hts _ (List.mem_of_getElem? (i := 2) rfl)) dX10_act_59 (fun q19 eq19 hq19 tq19 => ?_)
        have tq19 : τ q19 = (61, 0) := tq19
        have uq19 : qp = q19 := S_52.2.2.2.2 _ hqp _ hq19 (tqp.trans tq19.symm) (by rw [tqp]; rfl)
        subst uq19
        obtain ⟨v20, ev20, tv20⟩ : ∃ v : Int32, (Int8.ofInt (53)).toInt32 = v ∧ v.toInt = 53 := ⟨_, rfl, by decide +kernel⟩
        refine lv_bipush hx hb dX10_act_62 ev20 ?_
        refine lv_aload_n hx hb dX10_act_64 rfl (lv_at hl_52 0 rfl) ?_
        refine tr_geti Z.1 Z.2.2.2.1 S_52.1 S_52.2 ha0 ta0 rfl rfl (fun _ h => List.mem_cons_of_mem _ (List.mem_append_right _ h)) 2 (by decide) rfl (hts _ (List.mem_of_getElem? (i := 1) rfl)) dX10_act_65 (fun v21 ev21 lv21 uv21 => ?_)
        have wv21 : v21 = (fi E_52 a0 2) := ev21.symm.trans rfl
        have xv21 : v21.toInt = (fi E_52 a0 2).toInt := by rw [wv21]
        refine lv_imul hx hb dX10_act_68 ?_
        refine lv_topi (fun v22 ev22 => ?_)
        have tv22 := nu_mulc' (53) ev22 (by omega) (by omega) (by omega)
        refine lv_iload_n hx hb dX10_act_69 rfl (lv_at hl_52 1 rfl) ?_
        refine lv_iadd hx hb dX10_act_70 ?_
        refine lv_topi (fun v23 ev23 => ?_)
        have tv23 := nu_add ev23 (by omega) (by omega)
        refine lv_aload_n hx hb dX10_act_71 rfl (lv_at hl_52 0 rfl) ?_
        refine tr_getr Z.1 Z.2.2.2.1 S_52.1 S_52.2 ha0 ta0 rfl rfl (fun _ h => List.mem_cons_of_mem _ (List.mem_append_right _ h)) 0 (by decide) rfl (hts _ (List.mem_of_getElem? (i := 3) rfl)) dX10_act_72 (fun q24 eq24 hq24 tq24 => ?_)
        have tq24 : τ q24 = (60, 0) := tq24
        have uq24 : qn = q24 := S_52.2.2.2.2 _ hqn _ hq24 (tqn.trans tq24.symm) (by rw [tqn]; rfl)
        subst uq24
        refine lv_iload_n hx hb dX10_act_75 rfl (lv_at hl_52 1 rfl) ?_
        refine tr_ialdx Z.1 Z.2.2.2.1 S_52.1 S_52.2 hqn tqn rfl (by omega) (by omega) dX10_act_76 (fun v25 ev25 lv25 uv25 => ?_)
        have b26 : (pastB v23.toNatClampNeg).1 ≤ v25.toInt ∧ v25.toInt ≤ (pastB v23.toNatClampNeg).2 := by rw [pn_eq (i := v23) (k := x1_52) (by omega) (by omega) (by omega)]; exact ⟨lv25, uv25⟩
        refine tr_iastx Z.1 Z.2.2.2.1 S_52.1 S_52.2 hqp tqp rfl (by omega) (by omega) b26.1 b26.2 dX10_act_77 (fun E26 H27 k28 W26 I26 P26 => ?_)
        have S26 : Now D TB cy (va_A (va_pl L E) sz) s L τ E26 H27 k28 := ⟨W26, I26⟩
        have F26 : Fr L τ (inW [(11, 0), (61, 0)]) E E26 := Fr.set F_52 P26 tqp rfl
        obtain ⟨v29, ev29⟩ : ∃ y : Int32, x1_52 + Int32.ofInt (1) = y := ⟨_, rfl⟩
        have tv29 : v29.toInt = x1_52.toInt + (1) := by rw [← ev29]; exact (fb_addI (by rw [show (Int32.ofInt (1)).toInt = 1 from by decide +kernel]; omega) (by rw [show (Int32.ofInt (1)).toInt = 1 from by decide +kernel]; omega)).trans (by rw [show (Int32.ofInt (1)).toInt = 1 from by decide +kernel])
        refine lv_iinc (v := v29) (lv' := [(1, .int v29), (0, .ref a0)]) hx hb dX10_act_78 hl_52 (k := 1) rfl ev29 (by decide) rfl (fun l30 hl31 => ?_)
        refine lv_goto (tgt := 52) hx hb dX10_act_81 (by decide) ?_
        exact ih_52 v29 E26 H27 k28 l30 S26 F26 (by omega) (by omega) (cp_step z3 z4 (F_52 qn hqn (by rw [tqn]; rfl)) ev21 (by omega) (by omega) (by omega) ev25 P26 (ne_ro ta0 tqp (by decide)) (by omega)).1 (cp_step z3 z4 (F_52 qn hqn (by rw [tqn]; rfl)) ev21 (by omega) (by omega) (by omega) ev25 P26 (ne_ro ta0 tqp (by decide)) (by omega)).2 (fun k hk => ((fi_set P26 (ne_ro ta0 tqp (by decide))).trans (z5 k hk))) (by rw [((fi_set P26 (ne_ro ta0 tqp (by decide))).trans ev21)]; omega) (by omega) (lv_sub hl31 [1, 0] rfl)
  have J50 : ∀  (E_50 : Ec) (H_50 : Heap) (k_50 : List Loc) (l_50 : Array Slot), Now D TB cy (va_A (va_pl L E) sz) s L τ E_50 H_50 k_50 → Fr L τ (inW [(11, 0), (61, 0)]) E E_50 → (ChW E_50 a0 qp (ai E qn)) → (∀ k : Nat, k ∉ ([2, 3, 6] : List Nat) → fi E_50 a0 k = fi E a0 k) → (0 ≤ (fi E_50 a0 2).toInt ∧ (fi E_50 a0 2).toInt ≤ 39) → lv_has l_50 2 [(0, .ref a0)] → W p l e { frames := 1, cells := 0, slots := 0, locals := 20 } s m args below meth c H_50 k_50 0 0 QQ (F0 m 50 l_50 []) := by
    intro  E_50 H_50 k_50 l_50 S_50 F_50 z32 z33 z34 hl_50
    obtain ⟨v35, ev35, tv35⟩ : ∃ v : Int32, Int32.ofInt (0) = v ∧ v.toInt = 0 := ⟨_, rfl, by decide +kernel⟩
    refine lv_iconst hx hb dX10_act_50 ev35 ?_
    refine lv_istore_n (lv' := [(1, .int v35), (0, .ref a0)]) hx hb dX10_act_51 rfl hl_50 (by decide) rfl (fun l36 hl37 => ?_)
    exact J52 _ v35 E_50 H_50 k_50 l36 S_50 F_50 (by omega) (by omega) z32 (fun j h => absurd h (by omega)) (fun k hk => (z33 k hk)) (by omega) (Nat.lt_succ_self _) (lv_sub hl37 [1, 0] rfl)
  have J12 : ∀ (n : Nat) (x1_12 : Int32) (E_12 : Ec) (H_12 : Heap) (k_12 : List Loc) (l_12 : Array Slot), Now D TB cy (va_A (va_pl L E) sz) s L τ E_12 H_12 k_12 → Fr L τ (inW [(11, 0), (61, 0)]) E E_12 → (53 ≤ x1_12.toInt) → (x1_12.toInt ≤ 2120) → (∀ j : Nat, j < 2120 → ai E_12 qp j = if (j : Int) + 53 < x1_12.toInt then ai E qp (j + 53) else ai E qp j) → ((fi E a0 2).toInt = 40) → (∀ k : Nat, k ∉ ([2, 3, 6] : List Nat) → fi E_12 a0 k = fi E a0 k) → (40 ≤ (fi E_12 a0 2).toInt ∧ (fi E_12 a0 2).toInt ≤ 40) → (2120 - x1_12.toInt).toNat < n → lv_has l_12 2 [(0, .ref a0), (1, .int x1_12)] → W p l e { frames := 1, cells := 0, slots := 0, locals := 20 } s m args below meth c H_12 k_12 0 0 QQ (F0 m 12 l_12 []) := by
    intro n
    induction n with
    | zero => intro x1_12 E_12 H_12 k_12 l_12 S_12 F_12 z38 z39 z40 z41 z42 z43 hm hl_12; exact absurd hm (Nat.not_lt_zero _)
    | succ n ih =>
      intro x1_12 E_12 H_12 k_12 l_12 S_12 F_12 z38 z39 z40 z41 z42 z43 hm hl_12
      have ih_12 := ih
      refine lv_iload_n hx hb dX10_act_12 rfl (lv_at hl_12 1 rfl) ?_
      obtain ⟨v44, ev44, tv44⟩ : ∃ v : Int32, (Int16.ofInt (2120)).toInt32 = v ∧ v.toInt = 2120 := ⟨_, rfl, by decide +kernel⟩
      refine lv_sipush hx hb dX10_act_13 ev44 ?_
      refine lv_icmp_ge (tgt := 40) hx hb dX10_act_16 (by decide) (fun c45 => ?_) (fun c45 => ?_)
      · skip
        have tc45 := nu_le c45
        refine lv_aload_n hx hb dX10_act_40 rfl (lv_at hl_12 0 rfl) ?_
        refine lv_dup hx hb dX10_act_41 rfl ?_
        refine tr_geti Z.1 Z.2.2.2.1 S_12.1 S_12.2 ha0 ta0 rfl rfl (fun _ h => List.mem_cons_of_mem _ (List.mem_append_right _ h)) 2 (by decide) rfl (hts _ (List.mem_of_getElem? (i := 1) rfl)) dX10_act_42 (fun v46 ev46 lv46 uv46 => ?_)
        have wv46 : v46 = (fi E_12 a0 2) := ev46.symm.trans rfl
        have xv46 : v46.toInt = (fi E_12 a0 2).toInt := by rw [wv46]
        obtain ⟨v47, ev47, tv47⟩ : ∃ v : Int32, Int32.ofInt (1) = v ∧ v.toInt = 1 := ⟨_, rfl, by decide +kernel⟩
        refine lv_iconst hx hb dX10_act_45 ev47 ?_
        refine lv_isub hx hb dX10_act_46 ?_
        refine lv_topi (fun v48 ev48 => ?_)
        have tv48 := nu_sub ev48 (by omega) (by omega)
        refine tr_puti Z.1 Z.2.2.2.1 S_12.1 S_12.2 ha0 ta0 rfl rfl (fun _ h => List.mem_cons_of_mem _ (List.mem_append_right _ h)) tyX10_ok nmX10 2 (by decide) rfl rfl rfl (hts _ (List.mem_of_getElem? (i := 1) rfl)) dX10_act_47 (by omega) (by omega) (fun E49 H50 k51 W49 I49 P49 => ?_)
        have S49 : Now D TB cy (va_A (va_pl L E) sz) s L τ E49 H50 k51 := ⟨W49, I49⟩
        have F49 : Fr L τ (inW [(11, 0), (61, 0)]) E E49 := Fr.put F_12 P49 ta0 rfl
        exact J50 E49 H50 k51 l_12 S49 F49 (ChW.shift (hC a0 ha0 ta0 qn hqn tqn qp hqp tqp) (by omega) (by rw [(fi_at P49)]; omega) (fun j hj => (ai_put P49 (ne_ro tqp ta0 (by decide))).trans ((z40 j (by omega)).trans (by rw [if_pos (by omega)])))) (fun k hk => ((fi_put P49 (Or.inr (fw_ne (by decide) hk))).trans (z42 k hk))) (by rw [(fi_at P49)]; omega) (lv_sub hl_12 [0] rfl)
      · skip
        have tc45 := nu_nle c45
        refine lv_aload_n hx hb dX10_act_19 rfl (lv_at hl_12 0 rfl) ?_
        refine tr_getr Z.1 Z.2.2.2.1 S_12.1 S_12.2 ha0 ta0 rfl rfl (fun _ h => List.mem_cons_of_mem _ (List.mem_append_right _ h)) 1 (by decide) rfl (hts _ (List.mem_of_getElem? (i := 2) rfl)) dX10_act_20 (fun q52 eq52 hq52 tq52 => ?_)
        have tq52 : τ q52 = (61, 0) := tq52
        have uq52 : qp = q52 := S_12.2.2.2.2 _ hqp _ hq52 (tqp.trans tq52.symm) (by rw [tqp]; rfl)
        subst uq52
        refine lv_iload_n hx hb dX10_act_23 rfl (lv_at hl_12 1 rfl) ?_
        obtain ⟨v53, ev53, tv53⟩ : ∃ v : Int32, (Int8.ofInt (53)).toInt32 = v ∧ v.toInt = 53 := ⟨_, rfl, by decide +kernel⟩
        refine lv_bipush hx hb dX10_act_24 ev53 ?_
        refine lv_isub hx hb dX10_act_26 ?_
        refine lv_topi (fun v54 ev54 => ?_)
        have tv54 := nu_sub ev54 (by omega) (by omega)
        refine lv_aload_n hx hb dX10_act_27 rfl (lv_at hl_12 0 rfl) ?_
        refine tr_getr Z.1 Z.2.2.2.1 S_12.1 S_12.2 ha0 ta0 rfl rfl (fun _ h => List.mem_cons_of_mem _ (List.mem_append_right _ h)) 1 (by decide) rfl (hts _ (List.mem_of_getElem? (i := 2) rfl)) dX10_act_28 (fun q55 eq55 hq55 tq55 => ?_)
        have tq55 : τ q55 = (61, 0) := tq55
        have uq55 : qp = q55 := S_12.2.2.2.2 _ hqp _ hq55 (tqp.trans tq55.symm) (by rw [tqp]; rfl)
        subst uq55
        refine lv_iload_n hx hb dX10_act_31 rfl (lv_at hl_12 1 rfl) ?_
        refine tr_ialdx Z.1 Z.2.2.2.1 S_12.1 S_12.2 hqp tqp rfl (by omega) (by omega) dX10_act_32 (fun v56 ev56 lv56 uv56 => ?_)
        have b57 : (pastB v54.toNatClampNeg).1 ≤ v56.toInt ∧ v56.toInt ≤ (pastB v54.toNatClampNeg).2 := by rw [pb_eq (i := v54) (j := x1_12) (by omega) (by omega) (by omega)]; exact ⟨lv56, uv56⟩
        refine tr_iastx Z.1 Z.2.2.2.1 S_12.1 S_12.2 hqp tqp rfl (by omega) (by omega) b57.1 b57.2 dX10_act_33 (fun E57 H58 k59 W57 I57 P57 => ?_)
        have S57 : Now D TB cy (va_A (va_pl L E) sz) s L τ E57 H58 k59 := ⟨W57, I57⟩
        have F57 : Fr L τ (inW [(11, 0), (61, 0)]) E E57 := Fr.set F_12 P57 tqp rfl
        obtain ⟨v60, ev60⟩ : ∃ y : Int32, x1_12 + Int32.ofInt (1) = y := ⟨_, rfl⟩
        have tv60 : v60.toInt = x1_12.toInt + (1) := by rw [← ev60]; exact (fb_addI (by rw [show (Int32.ofInt (1)).toInt = 1 from by decide +kernel]; omega) (by rw [show (Int32.ofInt (1)).toInt = 1 from by decide +kernel]; omega)).trans (by rw [show (Int32.ofInt (1)).toInt = 1 from by decide +kernel])
        refine lv_iinc (v := v60) (lv' := [(1, .int v60), (0, .ref a0)]) hx hb dX10_act_34 hl_12 (k := 1) rfl ev60 (by decide) rfl (fun l61 hl62 => ?_)
        refine lv_goto (tgt := 12) hx hb dX10_act_37 (by decide) ?_
        exact ih_12 v60 E57 H58 k59 l61 S57 F57 (by omega) (by omega) (sh_step z40 P57 ev56 (by omega) (by omega) (by omega) (by omega)) z41 (fun k hk => ((fi_set P57 (ne_ro ta0 tqp (by decide))).trans (z42 k hk))) (by rw [((fi_set P57 (ne_ro ta0 tqp (by decide))).trans rfl)]; omega) (by omega) (lv_sub hl62 [1, 0] rfl)
  refine lv_aload_n hx hb dX10_act_0 rfl (lv_at hl 0 rfl) ?_
  refine tr_geti Z.1 Z.2.2.2.1 S0.1 S0.2 ha0 ta0 rfl rfl (fun _ h => List.mem_cons_of_mem _ (List.mem_append_right _ h)) 2 (by decide) rfl (hts _ (List.mem_of_getElem? (i := 1) rfl)) dX10_act_1 (fun v63 ev63 lv63 uv63 => ?_)
  obtain ⟨v64, ev64, tv64⟩ : ∃ v : Int32, (Int8.ofInt (40)).toInt32 = v ∧ v.toInt = 40 := ⟨_, rfl, by decide +kernel⟩
  refine lv_bipush hx hb dX10_act_4 ev64 ?_
  refine lv_icmp_ne (tgt := 50) hx hb dX10_act_6 (by decide) (fun c65 => ?_) (fun c65 => ?_)
  · skip
    have tc65 := nu_ne c65
    exact J50 E s.heap [] ls S0 F0_ (hC a0 ha0 ta0 qn hqn tqn qp hqp tqp) (fun k hk => ((fun k hk => rfl) k hk)) (by rw [ev63]; omega) (lv_sub hl [0] rfl)
  · skip
    have tc65 := nu_eq c65
    obtain ⟨v66, ev66, tv66⟩ : ∃ v : Int32, (Int8.ofInt (53)).toInt32 = v ∧ v.toInt = 53 := ⟨_, rfl, by decide +kernel⟩
    refine lv_bipush hx hb dX10_act_9 ev66 ?_
    refine lv_istore_n (lv' := [(1, .int v66), (0, .ref a0)]) hx hb dX10_act_11 rfl hl (by decide) rfl (fun l67 hl68 => ?_)
    exact J12 _ v66 E s.heap [] l67 S0 F0_ (by omega) (by omega) (fun j _ => by rw [if_neg (by omega)]) (by rw [ev63]; omega) (fun k hk => ((fun k hk => rfl) k hk)) (by rw [ev63]; omega) (Nat.lt_succ_self _) (lv_sub hl68 [1, 0] rfl)

theorem dX10_undo_0 : decode cX10_undo 0 = .ok (.aload_n 0, 1) := by decide +kernel
theorem dX10_undo_1 : decode cX10_undo 1 = .ok (.iconst 0, 1) := by decide +kernel
theorem dX10_undo_2 : decode cX10_undo 2 = .ok (.putfield 97, 3) := by decide +kernel
theorem dX10_undo_5 : decode cX10_undo 5 = .ok (.aload_n 0, 1) := by decide +kernel
theorem dX10_undo_6 : decode cX10_undo 6 = .ok (.getfield 103, 3) := by decide +kernel
theorem dX10_undo_9 : decode cX10_undo 9 = .ok (.ifCond .ne 5, 3) := by decide +kernel
theorem dX10_undo_12 : decode cX10_undo 12 = .ok (.iconst 0, 1) := by decide +kernel
theorem dX10_undo_13 : decode cX10_undo 13 = .ok (.ireturn, 1) := by decide +kernel
theorem dX10_undo_14 : decode cX10_undo 14 = .ok (.aload_n 0, 1) := by decide +kernel
theorem dX10_undo_15 : decode cX10_undo 15 = .ok (.dup, 1) := by decide +kernel
theorem dX10_undo_16 : decode cX10_undo 16 = .ok (.getfield 103, 3) := by decide +kernel
theorem dX10_undo_19 : decode cX10_undo 19 = .ok (.iconst 1, 1) := by decide +kernel
theorem dX10_undo_20 : decode cX10_undo 20 = .ok (.isub, 1) := by decide +kernel
theorem dX10_undo_21 : decode cX10_undo 21 = .ok (.putfield 103, 3) := by decide +kernel
theorem dX10_undo_24 : decode cX10_undo 24 = .ok (.iconst 0, 1) := by decide +kernel
theorem dX10_undo_25 : decode cX10_undo 25 = .ok (.istore_n 1, 1) := by decide +kernel
theorem dX10_undo_26 : decode cX10_undo 26 = .ok (.iload_n 1, 1) := by decide +kernel
theorem dX10_undo_27 : decode cX10_undo 27 = .ok (.bipush 53, 2) := by decide +kernel
theorem dX10_undo_29 : decode cX10_undo 29 = .ok (.if_icmp .ge 29, 3) := by decide +kernel
theorem dX10_undo_32 : decode cX10_undo 32 = .ok (.aload_n 0, 1) := by decide +kernel
theorem dX10_undo_33 : decode cX10_undo 33 = .ok (.getfield 7, 3) := by decide +kernel
theorem dX10_undo_36 : decode cX10_undo 36 = .ok (.iload_n 1, 1) := by decide +kernel
theorem dX10_undo_37 : decode cX10_undo 37 = .ok (.aload_n 0, 1) := by decide +kernel
theorem dX10_undo_38 : decode cX10_undo 38 = .ok (.getfield 13, 3) := by decide +kernel
theorem dX10_undo_41 : decode cX10_undo 41 = .ok (.bipush 53, 2) := by decide +kernel
theorem dX10_undo_43 : decode cX10_undo 43 = .ok (.aload_n 0, 1) := by decide +kernel
theorem dX10_undo_44 : decode cX10_undo 44 = .ok (.getfield 103, 3) := by decide +kernel
theorem dX10_undo_47 : decode cX10_undo 47 = .ok (.imul, 1) := by decide +kernel
theorem dX10_undo_48 : decode cX10_undo 48 = .ok (.iload_n 1, 1) := by decide +kernel
theorem dX10_undo_49 : decode cX10_undo 49 = .ok (.iadd, 1) := by decide +kernel
theorem dX10_undo_50 : decode cX10_undo 50 = .ok (.iaload, 1) := by decide +kernel
theorem dX10_undo_51 : decode cX10_undo 51 = .ok (.iastore, 1) := by decide +kernel
theorem dX10_undo_52 : decode cX10_undo 52 = .ok (.iinc 1 1, 3) := by decide +kernel
theorem dX10_undo_55 : decode cX10_undo 55 = .ok (.goto (-29), 3) := by decide +kernel
theorem dX10_undo_58 : decode cX10_undo 58 = .ok (.iconst 1, 1) := by decide +kernel
theorem dX10_undo_59 : decode cX10_undo 59 = .ok (.ireturn, 1) := by decide +kernel
set_option maxHeartbeats 4000000 in
set_option maxRecDepth 100000 in
theorem k_X10_undo (l : Launch) (D : va_G) (cy : Nat → ClassId) {L : List Nat} {τ : Nat → Ro} {E : Ec} (hI : Inv TB cy L τ E) {a0 : Nat} (ha0 : a0 ∈ L) (ta0 : τ a0 = (11, 0)) (hC : Chain L τ E) : CtI l yX10_undo wsX10_undo { frames := 0, cells := 0, slots := 0, locals := 0 } D TB cy L τ E [.ref a0] (inW [(11, 0), (60, 0)]) (fun r E' => 0 ≤ r.toInt ∧ r.toInt ≤ 1 ∧ (∀ k : Nat, k ∉ ([2, 4] : List Nat) → fi E' a0 k = fi E a0 k) ∧ Chain L τ E') := by
  intro sz
  refine sta (cc := cX10_undo) (maxL := 2) hI (by decide) rfl (Nat.le_of_ble_eq_true rfl) (fun p e s m args below meth c ls hsz Z S0 hl => ?_)
  have hx := Z.1.1
  have hb := Z.1.2.1
  have hts := Z.1.2.2.2.2
  have F0_ : Fr L τ (inW [(11, 0), (60, 0)]) E E := Fr.refl
  have hl : lv_has ls 2 [(0, .ref a0)] := hl
  generalize hQ : MQ below _ args s 0 0 _ = QQ
  obtain ⟨qn, hqn, tqn⟩ := ref_of (k := 0) hI ha0 ta0 rfl rfl
  have tqn : τ qn = (60, 0) := tqn
  obtain ⟨qp, hqp, tqp⟩ := ref_of (k := 1) hI ha0 ta0 rfl rfl
  have tqp : τ qp = (61, 0) := tqp
  have J26 : ∀ (n : Nat) (x1_26 : Int32) (E_26 : Ec) (H_26 : Heap) (k_26 : List Loc) (l_26 : Array Slot), Now D TB cy (va_A (va_pl L E) sz) s L τ E_26 H_26 k_26 → Fr L τ (inW [(11, 0), (60, 0)]) E E_26 → (0 ≤ x1_26.toInt) → (x1_26.toInt ≤ 53) → (∀ j : Nat, (j : Int) < x1_26.toInt → ai E_26 qn j = ai E qp (53 * (fi E_26 a0 2).toInt.toNat + j)) → ((fi E a0 2).toInt.toNat = (fi E_26 a0 2).toInt.toNat + 1) → (∀ k : Nat, k ∉ ([2, 4] : List Nat) → fi E_26 a0 k = fi E a0 k) → (0 ≤ (fi E_26 a0 2).toInt ∧ (fi E_26 a0 2).toInt ≤ 39) → (53 - x1_26.toInt).toNat < n → lv_has l_26 2 [(0, .ref a0), (1, .int x1_26)] → W p l e { frames := 0, cells := 0, slots := 0, locals := 0 } s m args below meth c H_26 k_26 0 0 QQ (F0 m 26 l_26 []) := by
    intro n
    induction n with
    | zero => intro x1_26 E_26 H_26 k_26 l_26 S_26 F_26 z1 z2 z3 z4 z5 z6 hm hl_26; exact absurd hm (Nat.not_lt_zero _)
    | succ n ih =>
      intro x1_26 E_26 H_26 k_26 l_26 S_26 F_26 z1 z2 z3 z4 z5 z6 hm hl_26
      have ih_26 := ih
      refine lv_iload_n hx hb dX10_undo_26 rfl (lv_at hl_26 1 rfl) ?_
      obtain ⟨v7, ev7, tv7⟩ : ∃ v : Int32, (Int8.ofInt (53)).toInt32 = v ∧ v.toInt = 53 := ⟨_, rfl, by decide +kernel⟩
      refine lv_bipush hx hb dX10_undo_27 ev7 ?_
      refine lv_icmp_ge (tgt := 58) hx hb dX10_undo_29 (by decide) (fun c8 => ?_) (fun c8 => ?_)
      · skip
        have tc8 := nu_le c8
        obtain ⟨v9, ev9, tv9⟩ : ∃ v : Int32, Int32.ofInt (1) = v ∧ v.toInt = 1 := ⟨_, rfl, by decide +kernel⟩
        refine lv_iconst hx hb dX10_undo_58 ev9 ?_
        rw [← hQ]
        exact en_i Z S_26 F_26 ⟨(by omega), (by omega), (fun k hk => (z5 k hk)), (Chain.fin S_26.2 ha0 ta0 hqn tqn hqp tqp ((hC a0 ha0 ta0 qn hqn tqn qp hqp tqp).pop z4 rfl (F_26 qp hqp (by rw [tqp]; rfl)) (fun j hj => z3 j (by omega))))⟩ dX10_undo_59
      · skip
        have tc8 := nu_nle c8
        refine lv_aload_n hx hb dX10_undo_32 rfl (lv_at hl_26 0 rfl) ?_
        refine tr_getr Z.1 Z.2.2.2.1 S_26.1 S_26.2 ha0 ta0 rfl rfl (fun _ h => List.mem_cons_of_mem _ (List.mem_append_right _ h)) 0 (by decide) rfl (hts _ (List.mem_of_getElem? (i := 3) rfl)) dX10_undo_33 (fun q10 eq10 hq10 tq10 => ?_)
        have tq10 : τ q10 = (60, 0) := tq10
        have uq10 : qn = q10 := S_26.2.2.2.2 _ hqn _ hq10 (tqn.trans tq10.symm) (by rw [tqn]; rfl)
        subst uq10
        refine lv_iload_n hx hb dX10_undo_36 rfl (lv_at hl_26 1 rfl) ?_
        refine lv_aload_n hx hb dX10_undo_37 rfl (lv_at hl_26 0 rfl) ?_
        refine tr_getr Z.1 Z.2.2.2.1 S_26.1 S_26.2 ha0 ta0 rfl rfl (fun _ h => List.mem_cons_of_mem _ (List.mem_append_right _ h)) 1 (by decide) rfl (hts _ (List.mem_of_getElem? (i := 4) rfl)) dX10_undo_38 (fun q11 eq11 hq11 tq11 => ?_)
        have tq11 : τ q11 = (61, 0) := tq11
        have uq11 : qp = q11 := S_26.2.2.2.2 _ hqp _ hq11 (tqp.trans tq11.symm) (by rw [tqp]; rfl)
        subst uq11
        obtain ⟨v12, ev12, tv12⟩ : ∃ v : Int32, (Int8.ofInt (53)).toInt32 = v ∧ v.toInt = 53 := ⟨_, rfl, by decide +kernel⟩
        refine lv_bipush hx hb dX10_undo_41 ev12 ?_
        refine lv_aload_n hx hb dX10_undo_43 rfl (lv_at hl_26 0 rfl) ?_
        refine tr_geti Z.1 Z.2.2.2.1 S_26.1 S_26.2 ha0 ta0 rfl rfl (fun _ h => List.mem_cons_of_mem _ (List.mem_append_right _ h)) 2 (by decide) rfl (hts _ (List.mem_of_getElem? (i := 2) rfl)) dX10_undo_44 (fun v13 ev13 lv13 uv13 => ?_)
        have wv13 : v13 = (fi E_26 a0 2) := ev13.symm.trans rfl
        have xv13 : v13.toInt = (fi E_26 a0 2).toInt := by rw [wv13]
        refine lv_imul hx hb dX10_undo_47 ?_
        refine lv_topi (fun v14 ev14 => ?_)
        have tv14 := nu_mulc' (53) ev14 (by omega) (by omega) (by omega)
        refine lv_iload_n hx hb dX10_undo_48 rfl (lv_at hl_26 1 rfl) ?_
        refine lv_iadd hx hb dX10_undo_49 ?_
        refine lv_topi (fun v15 ev15 => ?_)
        have tv15 := nu_add ev15 (by omega) (by omega)
        refine tr_ialdx Z.1 Z.2.2.2.1 S_26.1 S_26.2 hqp tqp rfl (by omega) (by omega) dX10_undo_50 (fun v16 ev16 lv16 uv16 => ?_)
        have b17 : (nowB x1_26.toNatClampNeg).1 ≤ v16.toInt ∧ v16.toInt ≤ (nowB x1_26.toNatClampNeg).2 := by rw [← pn_eq (i := v15) (k := x1_26) (by omega) (by omega) (by omega)]; exact ⟨lv16, uv16⟩
        refine tr_iastx Z.1 Z.2.2.2.1 S_26.1 S_26.2 hqn tqn rfl (by omega) (by omega) b17.1 b17.2 dX10_undo_51 (fun E17 H18 k19 W17 I17 P17 => ?_)
        have S17 : Now D TB cy (va_A (va_pl L E) sz) s L τ E17 H18 k19 := ⟨W17, I17⟩
        have F17 : Fr L τ (inW [(11, 0), (60, 0)]) E E17 := Fr.set F_26 P17 tqn rfl
        obtain ⟨v20, ev20⟩ : ∃ y : Int32, x1_26 + Int32.ofInt (1) = y := ⟨_, rfl⟩
        have tv20 : v20.toInt = x1_26.toInt + (1) := by rw [← ev20]; exact (fb_addI (by rw [show (Int32.ofInt (1)).toInt = 1 from by decide +kernel]; omega) (by rw [show (Int32.ofInt (1)).toInt = 1 from by decide +kernel]; omega)).trans (by rw [show (Int32.ofInt (1)).toInt = 1 from by decide +kernel])
        refine lv_iinc (v := v20) (lv' := [(1, .int v20), (0, .ref a0)]) hx hb dX10_undo_52 hl_26 (k := 1) rfl ev20 (by decide) rfl (fun l21 hl22 => ?_)
        refine lv_goto (tgt := 26) hx hb dX10_undo_55 (by decide) ?_
        exact ih_26 v20 E17 H18 k19 l21 S17 F17 (by omega) (by omega) (un_step z3 (F_26 qp hqp (by rw [tqp]; rfl)) ev13 (by omega) (by omega) (by omega) ev16 P17 (ne_ro ta0 tqn (by decide)) (by omega)) (by rw [fi_set P17 (ne_ro ta0 tqn (by decide))]; exact z4) (fun k hk => ((fi_set P17 (ne_ro ta0 tqn (by decide))).trans (z5 k hk))) (by rw [((fi_set P17 (ne_ro ta0 tqn (by decide))).trans ev13)]; omega) (by omega) (lv_sub hl22 [1, 0] rfl)
  refine lv_aload_n hx hb dX10_undo_0 rfl (lv_at hl 0 rfl) ?_
  obtain ⟨v23, ev23, tv23⟩ : ∃ v : Int32, Int32.ofInt (0) = v ∧ v.toInt = 0 := ⟨_, rfl, by decide +kernel⟩
  refine lv_iconst hx hb dX10_undo_1 ev23 ?_
  refine tr_puti Z.1 Z.2.2.2.1 S0.1 S0.2 ha0 ta0 rfl rfl (fun _ h => List.mem_cons_of_mem _ (List.mem_append_right _ h)) tyX10_ok nmX10 4 (by decide) rfl rfl rfl (hts _ (List.mem_of_getElem? (i := 1) rfl)) dX10_undo_2 (by omega) (by omega) (fun E24 H25 k26 W24 I24 P24 => ?_)
  have S24 : Now D TB cy (va_A (va_pl L E) sz) s L τ E24 H25 k26 := ⟨W24, I24⟩
  have F24 : Fr L τ (inW [(11, 0), (60, 0)]) E E24 := Fr.put F0_ P24 ta0 rfl
  refine lv_aload_n hx hb dX10_undo_5 rfl (lv_at hl 0 rfl) ?_
  refine tr_geti Z.1 Z.2.2.2.1 S24.1 S24.2 ha0 ta0 rfl rfl (fun _ h => List.mem_cons_of_mem _ (List.mem_append_right _ h)) 2 (by decide) rfl (hts _ (List.mem_of_getElem? (i := 2) rfl)) dX10_undo_6 (fun v27 ev27 lv27 uv27 => ?_)
  refine lv_if_ne (tgt := 14) hx hb dX10_undo_9 (by decide) (fun c28 => ?_) (fun c28 => ?_)
  · skip
    have tc28 := nu_ne c28
    have uc28 : (0 : Int32).toInt = 0 := rfl
    refine lv_aload_n hx hb dX10_undo_14 rfl (lv_at hl 0 rfl) ?_
    refine lv_dup hx hb dX10_undo_15 rfl ?_
    refine tr_geti Z.1 Z.2.2.2.1 S24.1 S24.2 ha0 ta0 rfl rfl (fun _ h => List.mem_cons_of_mem _ (List.mem_append_right _ h)) 2 (by decide) rfl (hts _ (List.mem_of_getElem? (i := 2) rfl)) dX10_undo_16 (fun v29 ev29 lv29 uv29 => ?_)
    have wv29 : v29 = v27 := ev29.symm.trans ev27
    have xv29 : v29.toInt = v27.toInt := by rw [wv29]
    obtain ⟨v30, ev30, tv30⟩ : ∃ v : Int32, Int32.ofInt (1) = v ∧ v.toInt = 1 := ⟨_, rfl, by decide +kernel⟩
    refine lv_iconst hx hb dX10_undo_19 ev30 ?_
    refine lv_isub hx hb dX10_undo_20 ?_
    refine lv_topi (fun v31 ev31 => ?_)
    have tv31 := nu_sub ev31 (by omega) (by omega)
    refine tr_puti Z.1 Z.2.2.2.1 S24.1 S24.2 ha0 ta0 rfl rfl (fun _ h => List.mem_cons_of_mem _ (List.mem_append_right _ h)) tyX10_ok nmX10 2 (by decide) rfl rfl rfl (hts _ (List.mem_of_getElem? (i := 2) rfl)) dX10_undo_21 (by omega) (by omega) (fun E32 H33 k34 W32 I32 P32 => ?_)
    have S32 : Now D TB cy (va_A (va_pl L E) sz) s L τ E32 H33 k34 := ⟨W32, I32⟩
    have F32 : Fr L τ (inW [(11, 0), (60, 0)]) E E32 := Fr.put F24 P32 ta0 rfl
    obtain ⟨v35, ev35, tv35⟩ : ∃ v : Int32, Int32.ofInt (0) = v ∧ v.toInt = 0 := ⟨_, rfl, by decide +kernel⟩
    refine lv_iconst hx hb dX10_undo_24 ev35 ?_
    refine lv_istore_n (lv' := [(1, .int v35), (0, .ref a0)]) hx hb dX10_undo_25 rfl hl (by decide) rfl (fun l36 hl37 => ?_)
    exact J26 _ v35 E32 H33 k34 l36 S32 F32 (by omega) (by omega) (fun j h => absurd h (by omega)) (by rw [(fi_at P32), ← (fi_put P24 (Or.inr (by decide))), ev29]; omega) (fun k hk => ((fi_put P32 (Or.inr (fw_ne (by decide) hk))).trans ((fi_put P24 (Or.inr (fw_ne (by decide) hk))).trans ((fun k hk => rfl) k hk)))) (by rw [(fi_at P32)]; omega) (Nat.lt_succ_self _) (lv_sub hl37 [1, 0] rfl)
  · skip
    have tc28 := nu_eq c28
    have uc28 : (0 : Int32).toInt = 0 := rfl
    obtain ⟨v38, ev38, tv38⟩ : ∃ v : Int32, Int32.ofInt (0) = v ∧ v.toInt = 0 := ⟨_, rfl, by decide +kernel⟩
    refine lv_iconst hx hb dX10_undo_12 ev38 ?_
    rw [← hQ]
    exact en_i Z S24 F24 ⟨(by omega), (by omega), (fun k hk => ((fi_put P24 (Or.inr (fw_ne (by decide) hk))).trans ((fun k hk => rfl) k hk))), (Chain.same hC S24.2 ha0 ta0 hqn tqn hqp tqp (P24.1 qn (ne_ro tqn ta0 (by decide))) (P24.1 qp (ne_ro tqp ta0 (by decide))) (fi_put P24 (Or.inr (by decide))))⟩ dX10_undo_13

theorem dX10_puts_0 : decode cX10_puts 0 = .ok (.aload_n 0, 1) := by decide +kernel
theorem dX10_puts_1 : decode cX10_puts 1 = .ok (.getfield 23, 3) := by decide +kernel
theorem dX10_puts_4 : decode cX10_puts 4 = .ok (.aload_n 0, 1) := by decide +kernel
theorem dX10_puts_5 : decode cX10_puts 5 = .ok (.getfield 112, 3) := by decide +kernel
theorem dX10_puts_8 : decode cX10_puts 8 = .ok (.iload_n 1, 1) := by decide +kernel
theorem dX10_puts_9 : decode cX10_puts 9 = .ok (.iastore, 1) := by decide +kernel
theorem dX10_puts_10 : decode cX10_puts 10 = .ok (.aload_n 0, 1) := by decide +kernel
theorem dX10_puts_11 : decode cX10_puts 11 = .ok (.getfield 32, 3) := by decide +kernel
theorem dX10_puts_14 : decode cX10_puts 14 = .ok (.aload_n 0, 1) := by decide +kernel
theorem dX10_puts_15 : decode cX10_puts 15 = .ok (.getfield 112, 3) := by decide +kernel
theorem dX10_puts_18 : decode cX10_puts 18 = .ok (.iload_n 2, 1) := by decide +kernel
theorem dX10_puts_19 : decode cX10_puts 19 = .ok (.iastore, 1) := by decide +kernel
theorem dX10_puts_20 : decode cX10_puts 20 = .ok (.aload_n 0, 1) := by decide +kernel
theorem dX10_puts_21 : decode cX10_puts 21 = .ok (.getfield 35, 3) := by decide +kernel
theorem dX10_puts_24 : decode cX10_puts 24 = .ok (.aload_n 0, 1) := by decide +kernel
theorem dX10_puts_25 : decode cX10_puts 25 = .ok (.getfield 112, 3) := by decide +kernel
theorem dX10_puts_28 : decode cX10_puts 28 = .ok (.iload_n 3, 1) := by decide +kernel
theorem dX10_puts_29 : decode cX10_puts 29 = .ok (.iastore, 1) := by decide +kernel
theorem dX10_puts_30 : decode cX10_puts 30 = .ok (.aload_n 0, 1) := by decide +kernel
theorem dX10_puts_31 : decode cX10_puts 31 = .ok (.getfield 44, 3) := by decide +kernel
theorem dX10_puts_34 : decode cX10_puts 34 = .ok (.aload_n 0, 1) := by decide +kernel
theorem dX10_puts_35 : decode cX10_puts 35 = .ok (.getfield 112, 3) := by decide +kernel
theorem dX10_puts_38 : decode cX10_puts 38 = .ok (.iload 4, 2) := by decide +kernel
theorem dX10_puts_40 : decode cX10_puts 40 = .ok (.iastore, 1) := by decide +kernel
theorem dX10_puts_41 : decode cX10_puts 41 = .ok (.aload_n 0, 1) := by decide +kernel
theorem dX10_puts_42 : decode cX10_puts 42 = .ok (.getfield 47, 3) := by decide +kernel
theorem dX10_puts_45 : decode cX10_puts 45 = .ok (.aload_n 0, 1) := by decide +kernel
theorem dX10_puts_46 : decode cX10_puts 46 = .ok (.getfield 112, 3) := by decide +kernel
theorem dX10_puts_49 : decode cX10_puts 49 = .ok (.iload 5, 2) := by decide +kernel
theorem dX10_puts_51 : decode cX10_puts 51 = .ok (.iastore, 1) := by decide +kernel
theorem dX10_puts_52 : decode cX10_puts 52 = .ok (.aload_n 0, 1) := by decide +kernel
theorem dX10_puts_53 : decode cX10_puts 53 = .ok (.dup, 1) := by decide +kernel
theorem dX10_puts_54 : decode cX10_puts 54 = .ok (.getfield 112, 3) := by decide +kernel
theorem dX10_puts_57 : decode cX10_puts 57 = .ok (.iconst 1, 1) := by decide +kernel
theorem dX10_puts_58 : decode cX10_puts 58 = .ok (.iadd, 1) := by decide +kernel
theorem dX10_puts_59 : decode cX10_puts 59 = .ok (.putfield 112, 3) := by decide +kernel
theorem dX10_puts_62 : decode cX10_puts 62 = .ok (.return_, 1) := by decide +kernel
set_option maxHeartbeats 4000000 in
set_option maxRecDepth 100000 in
theorem k_X10_puts (l : Launch) (D : va_G) (cy : Nat → ClassId) {L : List Nat} {τ : Nat → Ro} {E : Ec} (hI : Inv TB cy L τ E) {a0 : Nat} (ha0 : a0 ∈ L) (ta0 : τ a0 = (11, 0)) (a1 : Int32) (la1 : 0 ≤ a1.toInt) (ua1 : a1.toInt ≤ 3) (a2 : Int32) (a3 : Int32) (a4 : Int32) (a5 : Int32) (hm : (fi E a0 8).toInt ≤ 65) : CtV l yX10_puts wsX10_puts { frames := 0, cells := 0, slots := 0, locals := 0 } D TB cy L τ E [.ref a0, .int a1, .int a2, .int a3, .int a4, .int a5] (inW [(11, 0), (63, 0), (64, 0), (65, 0), (66, 0), (67, 0), (68, 0), (69, 0), (70, 0), (71, 0)]) (fun E' => ((fi E' a0 8).toInt = (fi E a0 8).toInt + 1) ∧ (∀ k : Nat, k ∉ ([8] : List Nat) → fi E' a0 k = fi E a0 k)) := by
  intro sz
  refine sta (cc := cX10_puts) (maxL := 6) hI (by decide) rfl (Nat.le_of_ble_eq_true rfl) (fun p e s m args below meth c ls hsz Z S0 hl => ?_)
  have hx := Z.1.1
  have hb := Z.1.2.1
  have hts := Z.1.2.2.2.2
  have F0_ : Fr L τ (inW [(11, 0), (63, 0), (64, 0), (65, 0), (66, 0), (67, 0), (68, 0), (69, 0), (70, 0), (71, 0)]) E E := Fr.refl
  have hl : lv_has ls 6 [(0, .ref a0), (1, .int a1), (2, .int a2), (3, .int a3), (4, .int a4), (5, .int a5)] := hl
  generalize hQ : MQ below _ args s 0 0 _ = QQ
  have kz_a0_8 := fi_rng (k := 8) hI ha0 ta0 rfl rfl
  refine lv_aload_n hx hb dX10_puts_0 rfl (lv_at hl 0 rfl) ?_
  refine tr_getr Z.1 Z.2.2.2.1 S0.1 S0.2 ha0 ta0 rfl rfl (fun _ h => List.mem_cons_of_mem _ (List.mem_append_right _ h)) 9 (by decide) rfl (hts _ (List.mem_of_getElem? (i := 1) rfl)) dX10_puts_1 (fun q1 eq1 hq1 tq1 => ?_)
  have tq1 : τ q1 = (63, 0) := tq1
  refine lv_aload_n hx hb dX10_puts_4 rfl (lv_at hl 0 rfl) ?_
  refine tr_geti Z.1 Z.2.2.2.1 S0.1 S0.2 ha0 ta0 rfl rfl (fun _ h => List.mem_cons_of_mem _ (List.mem_append_right _ h)) 8 (by decide) rfl (hts _ (List.mem_of_getElem? (i := 2) rfl)) dX10_puts_5 (fun v2 ev2 lv2 uv2 => ?_)
  have wv2 : v2 = (fi E a0 8) := ev2.symm.trans rfl
  have xv2 : v2.toInt = (fi E a0 8).toInt := by rw [wv2]
  refine lv_iload_n hx hb dX10_puts_8 rfl (lv_at hl 1 rfl) ?_
  refine tr_iast Z.1 Z.2.2.2.1 S0.1 S0.2 hq1 tq1 rfl (by omega) (by omega) (by omega) (by omega) dX10_puts_9 (fun E3 H4 k5 W3 I3 P3 => ?_)
  have S3 : Now D TB cy (va_A (va_pl L E) sz) s L τ E3 H4 k5 := ⟨W3, I3⟩
  have F3 : Fr L τ (inW [(11, 0), (63, 0), (64, 0), (65, 0), (66, 0), (67, 0), (68, 0), (69, 0), (70, 0), (71, 0)]) E E3 := Fr.set F0_ P3 tq1 rfl
  refine lv_aload_n hx hb dX10_puts_10 rfl (lv_at hl 0 rfl) ?_
  refine tr_getr Z.1 Z.2.2.2.1 S3.1 S3.2 ha0 ta0 rfl rfl (fun _ h => List.mem_cons_of_mem _ (List.mem_append_right _ h)) 12 (by decide) rfl (hts _ (List.mem_of_getElem? (i := 3) rfl)) dX10_puts_11 (fun q6 eq6 hq6 tq6 => ?_)
  have tq6 : τ q6 = (66, 0) := tq6
  refine lv_aload_n hx hb dX10_puts_14 rfl (lv_at hl 0 rfl) ?_
  refine tr_geti Z.1 Z.2.2.2.1 S3.1 S3.2 ha0 ta0 rfl rfl (fun _ h => List.mem_cons_of_mem _ (List.mem_append_right _ h)) 8 (by decide) rfl (hts _ (List.mem_of_getElem? (i := 2) rfl)) dX10_puts_15 (fun v7 ev7 lv7 uv7 => ?_)
  have wv7 : v7 = v2 := ev7.symm.trans ((fi_set P3 (ne_ro ta0 tq1 (by decide))).trans ev2)
  have xv7 : v7.toInt = v2.toInt := by rw [wv7]
  refine lv_iload_n hx hb dX10_puts_18 rfl (lv_at hl 2 rfl) ?_
  refine tr_iast Z.1 Z.2.2.2.1 S3.1 S3.2 hq6 tq6 rfl (by omega) (by omega) (by have := fb_rng a2; omega) (by have := fb_rng a2; omega) dX10_puts_19 (fun E8 H9 k10 W8 I8 P8 => ?_)
  have S8 : Now D TB cy (va_A (va_pl L E) sz) s L τ E8 H9 k10 := ⟨W8, I8⟩
  have F8 : Fr L τ (inW [(11, 0), (63, 0), (64, 0), (65, 0), (66, 0), (67, 0), (68, 0), (69, 0), (70, 0), (71, 0)]) E E8 := Fr.set F3 P8 tq6 rfl
  refine lv_aload_n hx hb dX10_puts_20 rfl (lv_at hl 0 rfl) ?_
  refine tr_getr Z.1 Z.2.2.2.1 S8.1 S8.2 ha0 ta0 rfl rfl (fun _ h => List.mem_cons_of_mem _ (List.mem_append_right _ h)) 13 (by decide) rfl (hts _ (List.mem_of_getElem? (i := 4) rfl)) dX10_puts_21 (fun q11 eq11 hq11 tq11 => ?_)
  have tq11 : τ q11 = (67, 0) := tq11
  refine lv_aload_n hx hb dX10_puts_24 rfl (lv_at hl 0 rfl) ?_
  refine tr_geti Z.1 Z.2.2.2.1 S8.1 S8.2 ha0 ta0 rfl rfl (fun _ h => List.mem_cons_of_mem _ (List.mem_append_right _ h)) 8 (by decide) rfl (hts _ (List.mem_of_getElem? (i := 2) rfl)) dX10_puts_25 (fun v12 ev12 lv12 uv12 => ?_)
  have wv12 : v12 = v7 := ev12.symm.trans ((fi_set P8 (ne_ro ta0 tq6 (by decide))).trans ev7)
  have xv12 : v12.toInt = v7.toInt := by rw [wv12]
  refine lv_iload_n hx hb dX10_puts_28 rfl (lv_at hl 3 rfl) ?_
  refine tr_iast Z.1 Z.2.2.2.1 S8.1 S8.2 hq11 tq11 rfl (by omega) (by omega) (by have := fb_rng a3; omega) (by have := fb_rng a3; omega) dX10_puts_29 (fun E13 H14 k15 W13 I13 P13 => ?_)
  have S13 : Now D TB cy (va_A (va_pl L E) sz) s L τ E13 H14 k15 := ⟨W13, I13⟩
  have F13 : Fr L τ (inW [(11, 0), (63, 0), (64, 0), (65, 0), (66, 0), (67, 0), (68, 0), (69, 0), (70, 0), (71, 0)]) E E13 := Fr.set F8 P13 tq11 rfl
  refine lv_aload_n hx hb dX10_puts_30 rfl (lv_at hl 0 rfl) ?_
  refine tr_getr Z.1 Z.2.2.2.1 S13.1 S13.2 ha0 ta0 rfl rfl (fun _ h => List.mem_cons_of_mem _ (List.mem_append_right _ h)) 16 (by decide) rfl (hts _ (List.mem_of_getElem? (i := 5) rfl)) dX10_puts_31 (fun q16 eq16 hq16 tq16 => ?_)
  have tq16 : τ q16 = (70, 0) := tq16
  refine lv_aload_n hx hb dX10_puts_34 rfl (lv_at hl 0 rfl) ?_
  refine tr_geti Z.1 Z.2.2.2.1 S13.1 S13.2 ha0 ta0 rfl rfl (fun _ h => List.mem_cons_of_mem _ (List.mem_append_right _ h)) 8 (by decide) rfl (hts _ (List.mem_of_getElem? (i := 2) rfl)) dX10_puts_35 (fun v17 ev17 lv17 uv17 => ?_)
  have wv17 : v17 = v12 := ev17.symm.trans ((fi_set P13 (ne_ro ta0 tq11 (by decide))).trans ev12)
  have xv17 : v17.toInt = v12.toInt := by rw [wv17]
  refine lv_iload hx hb dX10_puts_38 (lv_at hl 4 rfl) ?_
  refine tr_iast Z.1 Z.2.2.2.1 S13.1 S13.2 hq16 tq16 rfl (by omega) (by omega) (by have := fb_rng a4; omega) (by have := fb_rng a4; omega) dX10_puts_40 (fun E18 H19 k20 W18 I18 P18 => ?_)
  have S18 : Now D TB cy (va_A (va_pl L E) sz) s L τ E18 H19 k20 := ⟨W18, I18⟩
  have F18 : Fr L τ (inW [(11, 0), (63, 0), (64, 0), (65, 0), (66, 0), (67, 0), (68, 0), (69, 0), (70, 0), (71, 0)]) E E18 := Fr.set F13 P18 tq16 rfl
  refine lv_aload_n hx hb dX10_puts_41 rfl (lv_at hl 0 rfl) ?_
  refine tr_getr Z.1 Z.2.2.2.1 S18.1 S18.2 ha0 ta0 rfl rfl (fun _ h => List.mem_cons_of_mem _ (List.mem_append_right _ h)) 17 (by decide) rfl (hts _ (List.mem_of_getElem? (i := 6) rfl)) dX10_puts_42 (fun q21 eq21 hq21 tq21 => ?_)
  have tq21 : τ q21 = (71, 0) := tq21
  refine lv_aload_n hx hb dX10_puts_45 rfl (lv_at hl 0 rfl) ?_
  refine tr_geti Z.1 Z.2.2.2.1 S18.1 S18.2 ha0 ta0 rfl rfl (fun _ h => List.mem_cons_of_mem _ (List.mem_append_right _ h)) 8 (by decide) rfl (hts _ (List.mem_of_getElem? (i := 2) rfl)) dX10_puts_46 (fun v22 ev22 lv22 uv22 => ?_)
  have wv22 : v22 = v17 := ev22.symm.trans ((fi_set P18 (ne_ro ta0 tq16 (by decide))).trans ev17)
  have xv22 : v22.toInt = v17.toInt := by rw [wv22]
  refine lv_iload hx hb dX10_puts_49 (lv_at hl 5 rfl) ?_
  refine tr_iast Z.1 Z.2.2.2.1 S18.1 S18.2 hq21 tq21 rfl (by omega) (by omega) (by have := fb_rng a5; omega) (by have := fb_rng a5; omega) dX10_puts_51 (fun E23 H24 k25 W23 I23 P23 => ?_)
  have S23 : Now D TB cy (va_A (va_pl L E) sz) s L τ E23 H24 k25 := ⟨W23, I23⟩
  have F23 : Fr L τ (inW [(11, 0), (63, 0), (64, 0), (65, 0), (66, 0), (67, 0), (68, 0), (69, 0), (70, 0), (71, 0)]) E E23 := Fr.set F18 P23 tq21 rfl
  refine lv_aload_n hx hb dX10_puts_52 rfl (lv_at hl 0 rfl) ?_
  refine lv_dup hx hb dX10_puts_53 rfl ?_
  refine tr_geti Z.1 Z.2.2.2.1 S23.1 S23.2 ha0 ta0 rfl rfl (fun _ h => List.mem_cons_of_mem _ (List.mem_append_right _ h)) 8 (by decide) rfl (hts _ (List.mem_of_getElem? (i := 2) rfl)) dX10_puts_54 (fun v26 ev26 lv26 uv26 => ?_)
  have wv26 : v26 = v22 := ev26.symm.trans ((fi_set P23 (ne_ro ta0 tq21 (by decide))).trans ev22)
  have xv26 : v26.toInt = v22.toInt := by rw [wv26]
  obtain ⟨v27, ev27, tv27⟩ : ∃ v : Int32, Int32.ofInt (1) = v ∧ v.toInt = 1 := ⟨_, rfl, by decide +kernel⟩
  refine lv_iconst hx hb dX10_puts_57 ev27 ?_
  refine lv_iadd hx hb dX10_puts_58 ?_
  refine lv_topi (fun v28 ev28 => ?_)
  have tv28 := nu_add ev28 (by omega) (by omega)
  refine tr_puti Z.1 Z.2.2.2.1 S23.1 S23.2 ha0 ta0 rfl rfl (fun _ h => List.mem_cons_of_mem _ (List.mem_append_right _ h)) tyX10_ok nmX10 8 (by decide) rfl rfl rfl (hts _ (List.mem_of_getElem? (i := 2) rfl)) dX10_puts_59 (by omega) (by omega) (fun E29 H30 k31 W29 I29 P29 => ?_)
  have S29 : Now D TB cy (va_A (va_pl L E) sz) s L τ E29 H30 k31 := ⟨W29, I29⟩
  have F29 : Fr L τ (inW [(11, 0), (63, 0), (64, 0), (65, 0), (66, 0), (67, 0), (68, 0), (69, 0), (70, 0), (71, 0)]) E E29 := Fr.put F23 P29 ta0 rfl
  rw [← hQ]
  exact en_v Z S29 F29 ⟨(by rw [(fi_at P29)]; omega), (fun k hk => ((fi_put P29 (Or.inr (fw_ne (by decide) hk))).trans ((fi_set P23 (ne_ro ta0 tq21 (by decide))).trans ((fi_set P18 (ne_ro ta0 tq16 (by decide))).trans ((fi_set P13 (ne_ro ta0 tq11 (by decide))).trans ((fi_set P8 (ne_ro ta0 tq6 (by decide))).trans ((fi_set P3 (ne_ro ta0 tq1 (by decide))).trans ((fun k hk => rfl) k hk))))))))⟩ dX10_puts_62

set_option maxRecDepth 20000 in
theorem ggX10_first_X10_in : GoodIn wsX10_first wsX10_in := goodIn_r _ [7] (by decide +kernel) (by decide +kernel)
set_option maxRecDepth 20000 in
theorem gX10_first_X10_in : GoodIn wsX10_first (wsV RX10 123 RX10 yX10_in wsX10_in) := goodIn_app (goodIn_of _ (by decide +kernel)) ggX10_first_X10_in
set_option maxRecDepth 20000 in
theorem ggX10_first_X10_not : GoodIn wsX10_first wsX10_not := goodIn_r _ [11, 12, 13, 24, 25, 26, 27, 28, 29, 30, 31, 32, 33, 34, 35, 36, 37, 38, 39, 40, 41, 42, 43, 44, 45, 46, 47, 48, 49, 50, 51, 52, 53, 54, 55, 56, 57, 58, 59, 60, 61, 62, 63, 64, 65, 66, 67, 68, 69, 70, 71] (by decide +kernel) (by decide +kernel)
set_option maxRecDepth 20000 in
theorem gX10_first_X10_not : GoodIn wsX10_first (wsV RX10 127 RX10 yX10_not wsX10_not) := goodIn_app (goodIn_of _ (by decide +kernel)) ggX10_first_X10_not
set_option maxRecDepth 20000 in
theorem ggX10_first_X10_act : GoodIn wsX10_first wsX10_act := goodIn_r _ [17, 18, 19, 2, 20, 21, 22, 6, 23, 12, 13, 24, 25, 26, 27, 28, 29, 30, 31, 32, 33, 34, 35, 36, 37, 38, 39, 40, 41, 42, 43, 44, 45, 46, 47, 48, 49, 50, 51, 52, 53, 54, 55, 56, 57, 58, 59, 60, 61, 62, 63, 64, 65, 66, 67, 68, 69, 70, 71] (by decide +kernel) (by decide +kernel)
set_option maxRecDepth 20000 in
theorem gX10_first_X10_act : GoodIn wsX10_first (wsV RX10 131 RX10 yX10_act wsX10_act) := goodIn_app (goodIn_of _ (by decide +kernel)) ggX10_first_X10_act
theorem dX10_first_0 : decode cX10_first 0 = .ok (.aload_n 0, 1) := by decide +kernel
theorem dX10_first_1 : decode cX10_first 1 = .ok (.iconst 0, 1) := by decide +kernel
theorem dX10_first_2 : decode cX10_first 2 = .ok (.putfield 97, 3) := by decide +kernel
theorem dX10_first_5 : decode cX10_first 5 = .ok (.aload_n 0, 1) := by decide +kernel
theorem dX10_first_6 : decode cX10_first 6 = .ok (.iload_n 1, 1) := by decide +kernel
theorem dX10_first_7 : decode cX10_first 7 = .ok (.iconst 0, 1) := by decide +kernel
theorem dX10_first_8 : decode cX10_first 8 = .ok (.iconst 1, 1) := by decide +kernel
theorem dX10_first_9 : decode cX10_first 9 = .ok (.invokevirtual 123, 3) := by decide +kernel
theorem dX10_first_12 : decode cX10_first 12 = .ok (.ifCond .ne 9, 3) := by decide +kernel
theorem dX10_first_15 : decode cX10_first 15 = .ok (.aload_n 0, 1) := by decide +kernel
theorem dX10_first_16 : decode cX10_first 16 = .ok (.iconst 1, 1) := by decide +kernel
theorem dX10_first_17 : decode cX10_first 17 = .ok (.invokevirtual 127, 3) := by decide +kernel
theorem dX10_first_20 : decode cX10_first 20 = .ok (.ireturn, 1) := by decide +kernel
theorem dX10_first_21 : decode cX10_first 21 = .ok (.aload_n 0, 1) := by decide +kernel
theorem dX10_first_22 : decode cX10_first 22 = .ok (.invokevirtual 131, 3) := by decide +kernel
theorem dX10_first_25 : decode cX10_first 25 = .ok (.aload_n 0, 1) := by decide +kernel
theorem dX10_first_26 : decode cX10_first 26 = .ok (.getfield 7, 3) := by decide +kernel
theorem dX10_first_29 : decode cX10_first 29 = .ok (.bipush 13, 2) := by decide +kernel
theorem dX10_first_31 : decode cX10_first 31 = .ok (.iload_n 1, 1) := by decide +kernel
theorem dX10_first_32 : decode cX10_first 32 = .ok (.iastore, 1) := by decide +kernel
theorem dX10_first_33 : decode cX10_first 33 = .ok (.iconst 1, 1) := by decide +kernel
theorem dX10_first_34 : decode cX10_first 34 = .ok (.ireturn, 1) := by decide +kernel
set_option maxHeartbeats 4000000 in
set_option maxRecDepth 100000 in
theorem k_X10_first (l : Launch) (D : va_G) (cy : Nat → ClassId) {L : List Nat} {τ : Nat → Ro} {E : Ec} (hI : Inv TB cy L τ E) {a0 : Nat} (ha0 : a0 ∈ L) (ta0 : τ a0 = (11, 0)) (a1 : Int32) (hC : Chain L τ E) : CtI l yX10_first wsX10_first { frames := 2, cells := 0, slots := 0, locals := 41 } D TB cy L τ E [.ref a0, .int a1] (inW [(11, 0), (60, 0), (61, 0)]) (fun r E' => ((r.toInt = 1 ∧ 0 ≤ a1.toInt ∧ a1.toInt ≤ 1) ∨ (r.toInt = 0 ∧ ¬ (0 ≤ a1.toInt ∧ a1.toInt ≤ 1))) ∧ 0 ≤ r.toInt ∧ r.toInt ≤ 1 ∧ (∀ k : Nat, k ∉ ([2, 3, 4, 6] : List Nat) → fi E' a0 k = fi E a0 k) ∧ Chain L τ E') := by
  intro sz
  refine sta (cc := cX10_first) (maxL := 2) hI (by decide) rfl (Nat.le_of_ble_eq_true rfl) (fun p e s m args below meth c ls hsz Z S0 hl => ?_)
  have hx := Z.1.1
  have hb := Z.1.2.1
  have hts := Z.1.2.2.2.2
  have F0_ : Fr L τ (inW [(11, 0), (60, 0), (61, 0)]) E E := Fr.refl
  have hl : lv_has ls 2 [(0, .ref a0), (1, .int a1)] := hl
  generalize hQ : MQ below _ args s 0 0 _ = QQ
  obtain ⟨qn, hqn, tqn⟩ := ref_of (k := 0) hI ha0 ta0 rfl rfl
  have tqn : τ qn = (60, 0) := tqn
  obtain ⟨qp, hqp, tqp⟩ := ref_of (k := 1) hI ha0 ta0 rfl rfl
  have tqp : τ qp = (61, 0) := tqp
  refine lv_aload_n hx hb dX10_first_0 rfl (lv_at hl 0 rfl) ?_
  obtain ⟨v1, ev1, tv1⟩ : ∃ v : Int32, Int32.ofInt (0) = v ∧ v.toInt = 0 := ⟨_, rfl, by decide +kernel⟩
  refine lv_iconst hx hb dX10_first_1 ev1 ?_
  refine tr_puti Z.1 Z.2.2.2.1 S0.1 S0.2 ha0 ta0 rfl rfl (fun _ h => List.mem_cons_of_mem _ (List.mem_append_right _ h)) tyX10_ok nmX10 4 (by decide) rfl rfl rfl (hts _ (List.mem_of_getElem? (i := 1) rfl)) dX10_first_2 (by omega) (by omega) (fun E2 H3 k4 W2 I2 P2 => ?_)
  have S2 : Now D TB cy (va_A (va_pl L E) sz) s L τ E2 H3 k4 := ⟨W2, I2⟩
  have F2 : Fr L τ (inW [(11, 0), (60, 0), (61, 0)]) E E2 := Fr.put F0_ P2 ta0 rfl
  refine lv_aload_n hx hb dX10_first_5 rfl (lv_at hl 0 rfl) ?_
  refine lv_iload_n hx hb dX10_first_6 rfl (lv_at hl 1 rfl) ?_
  obtain ⟨v5, ev5, tv5⟩ : ∃ v : Int32, Int32.ofInt (0) = v ∧ v.toInt = 0 := ⟨_, rfl, by decide +kernel⟩
  refine lv_iconst hx hb dX10_first_7 ev5 ?_
  obtain ⟨v6, ev6, tv6⟩ : ∃ v : Int32, Int32.ofInt (1) = v ∧ v.toInt = 1 := ⟨_, rfl, by decide +kernel⟩
  refine lv_iconst hx hb dX10_first_8 ev6 ?_
  refine tc_vi Z.1 Z.2.2.2.1 Z.2.2.2.2.1 Z.2.2.2.2.2 S2.1 S2.2 ha0 ta0 rfl rfl (k_X10_in l D cy S2.2 ha0 ta0 a1 v5 v6) (cwV 3 hts gX10_first_X10_in rfl rfl rfl (by decide +kernel) ⟨Nat.le_of_ble_eq_true rfl, Nat.le_of_ble_eq_true rfl⟩) rfl hl.1 rfl (Nat.le_of_ble_eq_true rfl) dX10_first_9 ⟨Nat.zero_le _, Nat.zero_le _⟩ (fun v10 E7 H8 k9 W7 I7 G7 p7 => ?_)
  obtain ⟨q7, p7_0, p7_1, p7_2⟩ := p7
  have q7 := q7.symm
  subst q7
  have S7 : Now D TB cy (va_A (va_pl L E) sz) s L τ E2 H8 k9 := ⟨W7, I7⟩
  refine lv_if_ne (tgt := 21) hx hb dX10_first_12 (by decide) (fun c11 => ?_) (fun c11 => ?_)
  · skip
    have tc11 := nu_ne c11
    have uc11 : (0 : Int32).toInt = 0 := rfl
    refine lv_aload_n hx hb dX10_first_21 rfl (lv_at hl 0 rfl) ?_
    refine tc_vv Z.1 Z.2.2.2.1 Z.2.2.2.2.1 Z.2.2.2.2.2 S7.1 S7.2 ha0 ta0 rfl rfl (k_X10_act l D cy S7.2 ha0 ta0 (Chain.same hC S7.2 ha0 ta0 hqn tqn hqp tqp (P2.1 qn (ne_ro tqn ta0 (by decide))) (P2.1 qp (ne_ro tqp ta0 (by decide))) (fi_put P2 (Or.inr (by decide))))) (cwV 0 hts gX10_first_X10_act rfl rfl rfl (by decide +kernel) ⟨Nat.le_of_ble_eq_true rfl, Nat.le_of_ble_eq_true rfl⟩) rfl hl.1 rfl (Nat.le_of_ble_eq_true rfl) dX10_first_22 ⟨Nat.zero_le _, Nat.zero_le _⟩ (fun E12 H13 k14 W12 I12 G12 p12 => ?_)
    obtain ⟨p12_0, p12_1⟩ := p12
    have S12 : Now D TB cy (va_A (va_pl L E) sz) s L τ E12 H13 k14 := ⟨W12, I12⟩
    have F12 : Fr L τ (inW [(11, 0), (60, 0), (61, 0)]) E E12 := F2.trans (G12.mono (inW_mono (by decide)))
    have C16 : ∀ T : Nat → Int32, Link (ai E qn) T → ChW E12 a0 qp T := fun T hT => p12_0 qn hqn tqn qp hqp tqp T (by rw [ai_cell (P2.1 qn (ne_ro tqn ta0 (by decide)))]; exact hT)
    have B17 : ∀ j : Nat, 44 ≤ j → j ≤ 52 → ai E12 qn j = ai E qn j := fun j _ _ => ((ai_fr G12 hqn (by rw [tqn]; rfl)).trans (ai_put P2 (ne_ro tqn ta0 (by decide))))
    refine lv_aload_n hx hb dX10_first_25 rfl (lv_at hl 0 rfl) ?_
    refine tr_getr Z.1 Z.2.2.2.1 S12.1 S12.2 ha0 ta0 rfl rfl (fun _ h => List.mem_cons_of_mem _ (List.mem_append_right _ h)) 0 (by decide) rfl (hts _ (List.mem_of_getElem? (i := 2) rfl)) dX10_first_26 (fun q18 eq18 hq18 tq18 => ?_)
    have tq18 : τ q18 = (60, 0) := tq18
    have uq18 : qn = q18 := S12.2.2.2.2 _ hqn _ hq18 (tqn.trans tq18.symm) (by rw [tqn]; rfl)
    subst uq18
    obtain ⟨v19, ev19, tv19⟩ : ∃ v : Int32, (Int8.ofInt (13)).toInt32 = v ∧ v.toInt = 13 := ⟨_, rfl, by decide +kernel⟩
    refine lv_bipush hx hb dX10_first_29 ev19 ?_
    refine lv_iload_n hx hb dX10_first_31 rfl (lv_at hl 1 rfl) ?_
    have b20 : nowB v19.toNatClampNeg = (-2147483648, 2147483647) := nb_o (by show v19.toInt.toNat < 4 ∨ (8 ≤ v19.toInt.toNat ∧ v19.toInt.toNat ≤ 18) ∨ (20 ≤ v19.toInt.toNat ∧ v19.toInt.toNat ≤ 43); omega)
    have b20 : (nowB v19.toNatClampNeg).1 ≤ a1.toInt ∧ a1.toInt ≤ (nowB v19.toNatClampNeg).2 := by rw [b20]; have := fb_rng a1; show -2147483648 ≤ a1.toInt ∧ a1.toInt ≤ 2147483647; omega
    refine tr_iastx Z.1 Z.2.2.2.1 S12.1 S12.2 hqn tqn rfl (by omega) (by omega) b20.1 b20.2 dX10_first_32 (fun E20 H21 k22 W20 I20 P20 => ?_)
    have S20 : Now D TB cy (va_A (va_pl L E) sz) s L τ E20 H21 k22 := ⟨W20, I20⟩
    have F20 : Fr L τ (inW [(11, 0), (60, 0), (61, 0)]) E E20 := Fr.set F12 P20 tqn rfl
    obtain ⟨v23, ev23, tv23⟩ : ∃ v : Int32, Int32.ofInt (1) = v ∧ v.toInt = 1 := ⟨_, rfl, by decide +kernel⟩
    refine lv_iconst hx hb dX10_first_33 ev23 ?_
    rw [← hQ]
    exact en_z Z S20 F20 (zo v23 (by omega)) ⟨(by omega), (by omega), (by omega), (fun k hk => ((fi_set P20 (ne_ro ta0 tqn (by decide))).trans ((p12_1 k (fw_sub (by decide) hk)).trans ((fi_put P2 (Or.inr (fw_ne (by decide) hk))).trans ((fun k hk => rfl) k hk))))), (Chain.post C16 S20.2 ha0 ta0 hqn tqn hqp tqp (P20.1 qp (ne_ro tqp tqn (by decide))) (fi_set P20 (ne_ro ta0 tqn (by decide))) (Link.ag (fun j h1 h2 => ((ai_setk P20 (by show j ≠ v19.toInt.toNat; omega)).trans (B17 j h1 h2)))))⟩ dX10_first_34
  · skip
    have tc11 := nu_eq c11
    have uc11 : (0 : Int32).toInt = 0 := rfl
    refine lv_aload_n hx hb dX10_first_15 rfl (lv_at hl 0 rfl) ?_
    obtain ⟨v24, ev24, tv24⟩ : ∃ v : Int32, Int32.ofInt (1) = v ∧ v.toInt = 1 := ⟨_, rfl, by decide +kernel⟩
    refine lv_iconst hx hb dX10_first_16 ev24 ?_
    refine tc_vi Z.1 Z.2.2.2.1 Z.2.2.2.2.1 Z.2.2.2.2.2 S7.1 S7.2 ha0 ta0 rfl rfl (k_X10_not l D cy S7.2 ha0 ta0 v24) (cwV 1 hts gX10_first_X10_not rfl rfl rfl (by decide +kernel) ⟨Nat.le_of_ble_eq_true rfl, Nat.le_of_ble_eq_true rfl⟩) rfl hl.1 rfl (Nat.le_of_ble_eq_true rfl) dX10_first_17 ⟨Nat.zero_le _, Nat.zero_le _⟩ (fun v28 E25 H26 k27 W25 I25 G25 p25 => ?_)
    obtain ⟨p25_0, p25_1, p25_2⟩ := p25
    have S25 : Now D TB cy (va_A (va_pl L E) sz) s L τ E25 H26 k27 := ⟨W25, I25⟩
    have F25 : Fr L τ (inW [(11, 0), (60, 0), (61, 0)]) E E25 := F2.trans (G25.mono (inW_mono (by decide)))
    rw [← hQ]
    exact en_z Z S25 F25 (zo v28 (by omega)) ⟨(by omega), (by omega), (by omega), (fun k hk => ((p25_2 k (fw_sub (by decide) hk)).trans ((fi_put P2 (Or.inr (fw_ne (by decide) hk))).trans ((fun k hk => rfl) k hk)))), (Chain.same hC S25.2 ha0 ta0 hqn tqn hqp tqp ((G25 qn hqn (by rw [tqn]; rfl)).trans (P2.1 qn (ne_ro tqn ta0 (by decide)))) ((G25 qp hqp (by rw [tqp]; rfl)).trans (P2.1 qp (ne_ro tqp ta0 (by decide)))) ((p25_2 2 (by decide)).trans (fi_put P2 (Or.inr (by decide)))))⟩ dX10_first_20

set_option maxRecDepth 20000 in
theorem ggX10_turn_X10_in : GoodIn wsX10_turn wsX10_in := goodIn_r _ [7] (by decide +kernel) (by decide +kernel)
set_option maxRecDepth 20000 in
theorem gX10_turn_X10_in : GoodIn wsX10_turn (wsV RX10 123 RX10 yX10_in wsX10_in) := goodIn_app (goodIn_of _ (by decide +kernel)) ggX10_turn_X10_in
set_option maxRecDepth 20000 in
theorem ggX10_turn_X10_not : GoodIn wsX10_turn wsX10_not := goodIn_r _ [11, 12, 13, 24, 25, 26, 27, 28, 29, 30, 31, 32, 33, 34, 35, 36, 37, 38, 39, 40, 41, 42, 43, 44, 45, 46, 47, 48, 49, 50, 51, 52, 53, 54, 55, 56, 57, 58, 59, 60, 61, 62, 63, 64, 65, 66, 67, 68, 69, 70, 71] (by decide +kernel) (by decide +kernel)
set_option maxRecDepth 20000 in
theorem gX10_turn_X10_not : GoodIn wsX10_turn (wsV RX10 127 RX10 yX10_not wsX10_not) := goodIn_app (goodIn_of _ (by decide +kernel)) ggX10_turn_X10_not
set_option maxRecDepth 20000 in
theorem ggX10_turn_X10_act : GoodIn wsX10_turn wsX10_act := goodIn_r _ [17, 18, 19, 2, 20, 21, 22, 6, 23, 12, 13, 24, 25, 26, 27, 28, 29, 30, 31, 32, 33, 34, 35, 36, 37, 38, 39, 40, 41, 42, 43, 44, 45, 46, 47, 48, 49, 50, 51, 52, 53, 54, 55, 56, 57, 58, 59, 60, 61, 62, 63, 64, 65, 66, 67, 68, 69, 70, 71] (by decide +kernel) (by decide +kernel)
set_option maxRecDepth 20000 in
theorem gX10_turn_X10_act : GoodIn wsX10_turn (wsV RX10 131 RX10 yX10_act wsX10_act) := goodIn_app (goodIn_of _ (by decide +kernel)) ggX10_turn_X10_act
theorem dX10_turn_0 : decode cX10_turn 0 = .ok (.aload_n 0, 1) := by decide +kernel
theorem dX10_turn_1 : decode cX10_turn 1 = .ok (.iconst 0, 1) := by decide +kernel
theorem dX10_turn_2 : decode cX10_turn 2 = .ok (.putfield 97, 3) := by decide +kernel
theorem dX10_turn_5 : decode cX10_turn 5 = .ok (.aload_n 0, 1) := by decide +kernel
theorem dX10_turn_6 : decode cX10_turn 6 = .ok (.iload_n 1, 1) := by decide +kernel
theorem dX10_turn_7 : decode cX10_turn 7 = .ok (.iconst 0, 1) := by decide +kernel
theorem dX10_turn_8 : decode cX10_turn 8 = .ok (.aload_n 0, 1) := by decide +kernel
theorem dX10_turn_9 : decode cX10_turn 9 = .ok (.getfield 7, 3) := by decide +kernel
theorem dX10_turn_12 : decode cX10_turn 12 = .ok (.iconst 4, 1) := by decide +kernel
theorem dX10_turn_13 : decode cX10_turn 13 = .ok (.iaload, 1) := by decide +kernel
theorem dX10_turn_14 : decode cX10_turn 14 = .ok (.iconst 2, 1) := by decide +kernel
theorem dX10_turn_15 : decode cX10_turn 15 = .ok (.isub, 1) := by decide +kernel
theorem dX10_turn_16 : decode cX10_turn 16 = .ok (.invokevirtual 123, 3) := by decide +kernel
theorem dX10_turn_19 : decode cX10_turn 19 = .ok (.ifCond .ne 9, 3) := by decide +kernel
theorem dX10_turn_22 : decode cX10_turn 22 = .ok (.aload_n 0, 1) := by decide +kernel
theorem dX10_turn_23 : decode cX10_turn 23 = .ok (.iconst 4, 1) := by decide +kernel
theorem dX10_turn_24 : decode cX10_turn 24 = .ok (.invokevirtual 127, 3) := by decide +kernel
theorem dX10_turn_27 : decode cX10_turn 27 = .ok (.ireturn, 1) := by decide +kernel
theorem dX10_turn_28 : decode cX10_turn 28 = .ok (.aload_n 0, 1) := by decide +kernel
theorem dX10_turn_29 : decode cX10_turn 29 = .ok (.iload_n 2, 1) := by decide +kernel
theorem dX10_turn_30 : decode cX10_turn 30 = .ok (.iconst 0, 1) := by decide +kernel
theorem dX10_turn_31 : decode cX10_turn 31 = .ok (.iconst 1, 1) := by decide +kernel
theorem dX10_turn_32 : decode cX10_turn 32 = .ok (.invokevirtual 123, 3) := by decide +kernel
theorem dX10_turn_35 : decode cX10_turn 35 = .ok (.ifCond .ne 9, 3) := by decide +kernel
theorem dX10_turn_38 : decode cX10_turn 38 = .ok (.aload_n 0, 1) := by decide +kernel
theorem dX10_turn_39 : decode cX10_turn 39 = .ok (.iconst 1, 1) := by decide +kernel
theorem dX10_turn_40 : decode cX10_turn 40 = .ok (.invokevirtual 127, 3) := by decide +kernel
theorem dX10_turn_43 : decode cX10_turn 43 = .ok (.ireturn, 1) := by decide +kernel
theorem dX10_turn_44 : decode cX10_turn 44 = .ok (.aload_n 0, 1) := by decide +kernel
theorem dX10_turn_45 : decode cX10_turn 45 = .ok (.invokevirtual 131, 3) := by decide +kernel
theorem dX10_turn_48 : decode cX10_turn 48 = .ok (.aload_n 0, 1) := by decide +kernel
theorem dX10_turn_49 : decode cX10_turn 49 = .ok (.getfield 7, 3) := by decide +kernel
theorem dX10_turn_52 : decode cX10_turn 52 = .ok (.bipush 11, 2) := by decide +kernel
theorem dX10_turn_54 : decode cX10_turn 54 = .ok (.iload_n 1, 1) := by decide +kernel
theorem dX10_turn_55 : decode cX10_turn 55 = .ok (.iadd, 1) := by decide +kernel
theorem dX10_turn_56 : decode cX10_turn 56 = .ok (.iload_n 2, 1) := by decide +kernel
theorem dX10_turn_57 : decode cX10_turn 57 = .ok (.iastore, 1) := by decide +kernel
theorem dX10_turn_58 : decode cX10_turn 58 = .ok (.iconst 1, 1) := by decide +kernel
theorem dX10_turn_59 : decode cX10_turn 59 = .ok (.ireturn, 1) := by decide +kernel
set_option maxHeartbeats 4000000 in
set_option maxRecDepth 100000 in
theorem k_X10_turn (l : Launch) (D : va_G) (cy : Nat → ClassId) {L : List Nat} {τ : Nat → Ro} {E : Ec} (hI : Inv TB cy L τ E) {a0 : Nat} (ha0 : a0 ∈ L) (ta0 : τ a0 = (11, 0)) (a1 : Int32) (a2 : Int32) (hC : Chain L τ E) : CtI l yX10_turn wsX10_turn { frames := 2, cells := 0, slots := 0, locals := 41 } D TB cy L τ E [.ref a0, .int a1, .int a2] (inW [(11, 0), (60, 0), (61, 0)]) (fun r E' => 0 ≤ r.toInt ∧ r.toInt ≤ 1 ∧ (∀ k : Nat, k ∉ ([2, 3, 4, 6] : List Nat) → fi E' a0 k = fi E a0 k) ∧ Chain L τ E') := by
  intro sz
  refine sta (cc := cX10_turn) (maxL := 3) hI (by decide) rfl (Nat.le_of_ble_eq_true rfl) (fun p e s m args below meth c ls hsz Z S0 hl => ?_)
  have hx := Z.1.1
  have hb := Z.1.2.1
  have hts := Z.1.2.2.2.2
  have F0_ : Fr L τ (inW [(11, 0), (60, 0), (61, 0)]) E E := Fr.refl
  have hl : lv_has ls 3 [(0, .ref a0), (1, .int a1), (2, .int a2)] := hl
  generalize hQ : MQ below _ args s 0 0 _ = QQ
  obtain ⟨qn, hqn, tqn⟩ := ref_of (k := 0) hI ha0 ta0 rfl rfl
  have tqn : τ qn = (60, 0) := tqn
  obtain ⟨qp, hqp, tqp⟩ := ref_of (k := 1) hI ha0 ta0 rfl rfl
  have tqp : τ qp = (61, 0) := tqp
  refine lv_aload_n hx hb dX10_turn_0 rfl (lv_at hl 0 rfl) ?_
  obtain ⟨v1, ev1, tv1⟩ : ∃ v : Int32, Int32.ofInt (0) = v ∧ v.toInt = 0 := ⟨_, rfl, by decide +kernel⟩
  refine lv_iconst hx hb dX10_turn_1 ev1 ?_
  refine tr_puti Z.1 Z.2.2.2.1 S0.1 S0.2 ha0 ta0 rfl rfl (fun _ h => List.mem_cons_of_mem _ (List.mem_append_right _ h)) tyX10_ok nmX10 4 (by decide) rfl rfl rfl (hts _ (List.mem_of_getElem? (i := 1) rfl)) dX10_turn_2 (by omega) (by omega) (fun E2 H3 k4 W2 I2 P2 => ?_)
  have S2 : Now D TB cy (va_A (va_pl L E) sz) s L τ E2 H3 k4 := ⟨W2, I2⟩
  have F2 : Fr L τ (inW [(11, 0), (60, 0), (61, 0)]) E E2 := Fr.put F0_ P2 ta0 rfl
  refine lv_aload_n hx hb dX10_turn_5 rfl (lv_at hl 0 rfl) ?_
  refine lv_iload_n hx hb dX10_turn_6 rfl (lv_at hl 1 rfl) ?_
  obtain ⟨v5, ev5, tv5⟩ : ∃ v : Int32, Int32.ofInt (0) = v ∧ v.toInt = 0 := ⟨_, rfl, by decide +kernel⟩
  refine lv_iconst hx hb dX10_turn_7 ev5 ?_
  refine lv_aload_n hx hb dX10_turn_8 rfl (lv_at hl 0 rfl) ?_
  refine tr_getr Z.1 Z.2.2.2.1 S2.1 S2.2 ha0 ta0 rfl rfl (fun _ h => List.mem_cons_of_mem _ (List.mem_append_right _ h)) 0 (by decide) rfl (hts _ (List.mem_of_getElem? (i := 2) rfl)) dX10_turn_9 (fun q6 eq6 hq6 tq6 => ?_)
  have tq6 : τ q6 = (60, 0) := tq6
  have uq6 : qn = q6 := S2.2.2.2.2 _ hqn _ hq6 (tqn.trans tq6.symm) (by rw [tqn]; rfl)
  subst uq6
  obtain ⟨v7, ev7, tv7⟩ : ∃ v : Int32, Int32.ofInt (4) = v ∧ v.toInt = 4 := ⟨_, rfl, by decide +kernel⟩
  refine lv_iconst hx hb dX10_turn_12 ev7 ?_
  refine tr_ialdx Z.1 Z.2.2.2.1 S2.1 S2.2 hqn tqn rfl (by omega) (by omega) dX10_turn_13 (fun v8 ev8 lv8 uv8 => ?_)
  have bv8 : nowB v7.toNatClampNeg = (0, 3) := nb_4 (by show v7.toInt.toNat = 4; omega)
  rw [bv8] at lv8 uv8
  have lv8 : 0 ≤ v8.toInt := lv8
  have uv8 : v8.toInt ≤ 3 := uv8
  have av8 : ai E2 qn 4 = v8 := ai_at ev8 (by omega)
  obtain ⟨v9, ev9, tv9⟩ : ∃ v : Int32, Int32.ofInt (2) = v ∧ v.toInt = 2 := ⟨_, rfl, by decide +kernel⟩
  refine lv_iconst hx hb dX10_turn_14 ev9 ?_
  refine lv_isub hx hb dX10_turn_15 ?_
  refine lv_topi (fun v10 ev10 => ?_)
  have tv10 := nu_sub ev10 (by omega) (by omega)
  refine tc_vi Z.1 Z.2.2.2.1 Z.2.2.2.2.1 Z.2.2.2.2.2 S2.1 S2.2 ha0 ta0 rfl rfl (k_X10_in l D cy S2.2 ha0 ta0 a1 v5 v10) (cwV 3 hts gX10_turn_X10_in rfl rfl rfl (by decide +kernel) ⟨Nat.le_of_ble_eq_true rfl, Nat.le_of_ble_eq_true rfl⟩) rfl hl.1 rfl (Nat.le_of_ble_eq_true rfl) dX10_turn_16 ⟨Nat.zero_le _, Nat.zero_le _⟩ (fun v14 E11 H12 k13 W11 I11 G11 p11 => ?_)
  obtain ⟨q11, p11_0, p11_1, p11_2⟩ := p11
  have q11 := q11.symm
  subst q11
  have S11 : Now D TB cy (va_A (va_pl L E) sz) s L τ E2 H12 k13 := ⟨W11, I11⟩
  refine lv_if_ne (tgt := 28) hx hb dX10_turn_19 (by decide) (fun c15 => ?_) (fun c15 => ?_)
  · skip
    have tc15 := nu_ne c15
    have uc15 : (0 : Int32).toInt = 0 := rfl
    refine lv_aload_n hx hb dX10_turn_28 rfl (lv_at hl 0 rfl) ?_
    refine lv_iload_n hx hb dX10_turn_29 rfl (lv_at hl 2 rfl) ?_
    obtain ⟨v16, ev16, tv16⟩ : ∃ v : Int32, Int32.ofInt (0) = v ∧ v.toInt = 0 := ⟨_, rfl, by decide +kernel⟩
    refine lv_iconst hx hb dX10_turn_30 ev16 ?_
    obtain ⟨v17, ev17, tv17⟩ : ∃ v : Int32, Int32.ofInt (1) = v ∧ v.toInt = 1 := ⟨_, rfl, by decide +kernel⟩
    refine lv_iconst hx hb dX10_turn_31 ev17 ?_
    refine tc_vi Z.1 Z.2.2.2.1 Z.2.2.2.2.1 Z.2.2.2.2.2 S11.1 S11.2 ha0 ta0 rfl rfl (k_X10_in l D cy S11.2 ha0 ta0 a2 v16 v17) (cwV 3 hts gX10_turn_X10_in rfl rfl rfl (by decide +kernel) ⟨Nat.le_of_ble_eq_true rfl, Nat.le_of_ble_eq_true rfl⟩) rfl hl.1 rfl (Nat.le_of_ble_eq_true rfl) dX10_turn_32 ⟨Nat.zero_le _, Nat.zero_le _⟩ (fun v21 E18 H19 k20 W18 I18 G18 p18 => ?_)
    obtain ⟨q18, p18_0, p18_1, p18_2⟩ := p18
    have q18 := q18.symm
    subst q18
    have S18 : Now D TB cy (va_A (va_pl L E) sz) s L τ E2 H19 k20 := ⟨W18, I18⟩
    refine lv_if_ne (tgt := 44) hx hb dX10_turn_35 (by decide) (fun c22 => ?_) (fun c22 => ?_)
    · skip
      have tc22 := nu_ne c22
      have uc22 : (0 : Int32).toInt = 0 := rfl
      refine lv_aload_n hx hb dX10_turn_44 rfl (lv_at hl 0 rfl) ?_
      refine tc_vv Z.1 Z.2.2.2.1 Z.2.2.2.2.1 Z.2.2.2.2.2 S18.1 S18.2 ha0 ta0 rfl rfl (k_X10_act l D cy S18.2 ha0 ta0 (Chain.same hC S18.2 ha0 ta0 hqn tqn hqp tqp (P2.1 qn (ne_ro tqn ta0 (by decide))) (P2.1 qp (ne_ro tqp ta0 (by decide))) (fi_put P2 (Or.inr (by decide))))) (cwV 0 hts gX10_turn_X10_act rfl rfl rfl (by decide +kernel) ⟨Nat.le_of_ble_eq_true rfl, Nat.le_of_ble_eq_true rfl⟩) rfl hl.1 rfl (Nat.le_of_ble_eq_true rfl) dX10_turn_45 ⟨Nat.zero_le _, Nat.zero_le _⟩ (fun E23 H24 k25 W23 I23 G23 p23 => ?_)
      obtain ⟨p23_0, p23_1⟩ := p23
      have S23 : Now D TB cy (va_A (va_pl L E) sz) s L τ E23 H24 k25 := ⟨W23, I23⟩
      have F23 : Fr L τ (inW [(11, 0), (60, 0), (61, 0)]) E E23 := F2.trans (G23.mono (inW_mono (by decide)))
      have C27 : ∀ T : Nat → Int32, Link (ai E qn) T → ChW E23 a0 qp T := fun T hT => p23_0 qn hqn tqn qp hqp tqp T (by rw [ai_cell (P2.1 qn (ne_ro tqn ta0 (by decide)))]; exact hT)
      have B28 : ∀ j : Nat, 44 ≤ j → j ≤ 52 → ai E23 qn j = ai E qn j := fun j _ _ => ((ai_fr G23 hqn (by rw [tqn]; rfl)).trans (ai_put P2 (ne_ro tqn ta0 (by decide))))
      refine lv_aload_n hx hb dX10_turn_48 rfl (lv_at hl 0 rfl) ?_
      refine tr_getr Z.1 Z.2.2.2.1 S23.1 S23.2 ha0 ta0 rfl rfl (fun _ h => List.mem_cons_of_mem _ (List.mem_append_right _ h)) 0 (by decide) rfl (hts _ (List.mem_of_getElem? (i := 2) rfl)) dX10_turn_49 (fun q29 eq29 hq29 tq29 => ?_)
      have tq29 : τ q29 = (60, 0) := tq29
      have uq29 : qn = q29 := S23.2.2.2.2 _ hqn _ hq29 (tqn.trans tq29.symm) (by rw [tqn]; rfl)
      subst uq29
      obtain ⟨v30, ev30, tv30⟩ : ∃ v : Int32, (Int8.ofInt (11)).toInt32 = v ∧ v.toInt = 11 := ⟨_, rfl, by decide +kernel⟩
      refine lv_bipush hx hb dX10_turn_52 ev30 ?_
      refine lv_iload_n hx hb dX10_turn_54 rfl (lv_at hl 1 rfl) ?_
      refine lv_iadd hx hb dX10_turn_55 ?_
      refine lv_topi (fun v31 ev31 => ?_)
      have tv31 := nu_add ev31 (by omega) (by omega)
      refine lv_iload_n hx hb dX10_turn_56 rfl (lv_at hl 2 rfl) ?_
      have b32 : nowB v31.toNatClampNeg = (-2147483648, 2147483647) := nb_o (by show v31.toInt.toNat < 4 ∨ (8 ≤ v31.toInt.toNat ∧ v31.toInt.toNat ≤ 18) ∨ (20 ≤ v31.toInt.toNat ∧ v31.toInt.toNat ≤ 43); omega)
      have b32 : (nowB v31.toNatClampNeg).1 ≤ a2.toInt ∧ a2.toInt ≤ (nowB v31.toNatClampNeg).2 := by rw [b32]; have := fb_rng a2; show -2147483648 ≤ a2.toInt ∧ a2.toInt ≤ 2147483647; omega
      refine tr_iastx Z.1 Z.2.2.2.1 S23.1 S23.2 hqn tqn rfl (by omega) (by omega) b32.1 b32.2 dX10_turn_57 (fun E32 H33 k34 W32 I32 P32 => ?_)
      have S32 : Now D TB cy (va_A (va_pl L E) sz) s L τ E32 H33 k34 := ⟨W32, I32⟩
      have F32 : Fr L τ (inW [(11, 0), (60, 0), (61, 0)]) E E32 := Fr.set F23 P32 tqn rfl
      obtain ⟨v35, ev35, tv35⟩ : ∃ v : Int32, Int32.ofInt (1) = v ∧ v.toInt = 1 := ⟨_, rfl, by decide +kernel⟩
      refine lv_iconst hx hb dX10_turn_58 ev35 ?_
      rw [← hQ]
      exact en_z Z S32 F32 (zo v35 (by omega)) ⟨(by omega), (by omega), (fun k hk => ((fi_set P32 (ne_ro ta0 tqn (by decide))).trans ((p23_1 k (fw_sub (by decide) hk)).trans ((fi_put P2 (Or.inr (fw_ne (by decide) hk))).trans ((fun k hk => rfl) k hk))))), (Chain.post C27 S32.2 ha0 ta0 hqn tqn hqp tqp (P32.1 qp (ne_ro tqp tqn (by decide))) (fi_set P32 (ne_ro ta0 tqn (by decide))) (Link.ag (fun j h1 h2 => ((ai_setk P32 (by show j ≠ v31.toInt.toNat; omega)).trans (B28 j h1 h2)))))⟩ dX10_turn_59
    · skip
      have tc22 := nu_eq c22
      have uc22 : (0 : Int32).toInt = 0 := rfl
      refine lv_aload_n hx hb dX10_turn_38 rfl (lv_at hl 0 rfl) ?_
      obtain ⟨v36, ev36, tv36⟩ : ∃ v : Int32, Int32.ofInt (1) = v ∧ v.toInt = 1 := ⟨_, rfl, by decide +kernel⟩
      refine lv_iconst hx hb dX10_turn_39 ev36 ?_
      refine tc_vi Z.1 Z.2.2.2.1 Z.2.2.2.2.1 Z.2.2.2.2.2 S18.1 S18.2 ha0 ta0 rfl rfl (k_X10_not l D cy S18.2 ha0 ta0 v36) (cwV 1 hts gX10_turn_X10_not rfl rfl rfl (by decide +kernel) ⟨Nat.le_of_ble_eq_true rfl, Nat.le_of_ble_eq_true rfl⟩) rfl hl.1 rfl (Nat.le_of_ble_eq_true rfl) dX10_turn_40 ⟨Nat.zero_le _, Nat.zero_le _⟩ (fun v40 E37 H38 k39 W37 I37 G37 p37 => ?_)
      obtain ⟨p37_0, p37_1, p37_2⟩ := p37
      have S37 : Now D TB cy (va_A (va_pl L E) sz) s L τ E37 H38 k39 := ⟨W37, I37⟩
      have F37 : Fr L τ (inW [(11, 0), (60, 0), (61, 0)]) E E37 := F2.trans (G37.mono (inW_mono (by decide)))
      rw [← hQ]
      exact en_z Z S37 F37 (zo v40 (by omega)) ⟨(by omega), (by omega), (fun k hk => ((p37_2 k (fw_sub (by decide) hk)).trans ((fi_put P2 (Or.inr (fw_ne (by decide) hk))).trans ((fun k hk => rfl) k hk)))), (Chain.same hC S37.2 ha0 ta0 hqn tqn hqp tqp ((G37 qn hqn (by rw [tqn]; rfl)).trans (P2.1 qn (ne_ro tqn ta0 (by decide)))) ((G37 qp hqp (by rw [tqp]; rfl)).trans (P2.1 qp (ne_ro tqp ta0 (by decide)))) ((p37_2 2 (by decide)).trans (fi_put P2 (Or.inr (by decide)))))⟩ dX10_turn_43
  · skip
    have tc15 := nu_eq c15
    have uc15 : (0 : Int32).toInt = 0 := rfl
    refine lv_aload_n hx hb dX10_turn_22 rfl (lv_at hl 0 rfl) ?_
    obtain ⟨v41, ev41, tv41⟩ : ∃ v : Int32, Int32.ofInt (4) = v ∧ v.toInt = 4 := ⟨_, rfl, by decide +kernel⟩
    refine lv_iconst hx hb dX10_turn_23 ev41 ?_
    refine tc_vi Z.1 Z.2.2.2.1 Z.2.2.2.2.1 Z.2.2.2.2.2 S11.1 S11.2 ha0 ta0 rfl rfl (k_X10_not l D cy S11.2 ha0 ta0 v41) (cwV 1 hts gX10_turn_X10_not rfl rfl rfl (by decide +kernel) ⟨Nat.le_of_ble_eq_true rfl, Nat.le_of_ble_eq_true rfl⟩) rfl hl.1 rfl (Nat.le_of_ble_eq_true rfl) dX10_turn_24 ⟨Nat.zero_le _, Nat.zero_le _⟩ (fun v45 E42 H43 k44 W42 I42 G42 p42 => ?_)
    obtain ⟨p42_0, p42_1, p42_2⟩ := p42
    have S42 : Now D TB cy (va_A (va_pl L E) sz) s L τ E42 H43 k44 := ⟨W42, I42⟩
    have F42 : Fr L τ (inW [(11, 0), (60, 0), (61, 0)]) E E42 := F2.trans (G42.mono (inW_mono (by decide)))
    rw [← hQ]
    exact en_z Z S42 F42 (zo v45 (by omega)) ⟨(by omega), (by omega), (fun k hk => ((p42_2 k (fw_sub (by decide) hk)).trans ((fi_put P2 (Or.inr (fw_ne (by decide) hk))).trans ((fun k hk => rfl) k hk)))), (Chain.same hC S42.2 ha0 ta0 hqn tqn hqp tqp ((G42 qn hqn (by rw [tqn]; rfl)).trans (P2.1 qn (ne_ro tqn ta0 (by decide)))) ((G42 qp hqp (by rw [tqp]; rfl)).trans (P2.1 qp (ne_ro tqp ta0 (by decide)))) ((p42_2 2 (by decide)).trans (fi_put P2 (Or.inr (by decide)))))⟩ dX10_turn_27

set_option maxRecDepth 20000 in
theorem ggX10_price_X10_in : GoodIn wsX10_price wsX10_in := goodIn_r _ [7] (by decide +kernel) (by decide +kernel)
set_option maxRecDepth 20000 in
theorem gX10_price_X10_in : GoodIn wsX10_price (wsV RX10 123 RX10 yX10_in wsX10_in) := goodIn_app (goodIn_of _ (by decide +kernel)) ggX10_price_X10_in
set_option maxRecDepth 20000 in
theorem ggX10_price_X10_not : GoodIn wsX10_price wsX10_not := goodIn_r _ [11, 12, 13, 24, 25, 26, 27, 28, 29, 30, 31, 32, 33, 34, 35, 36, 37, 38, 39, 40, 41, 42, 43, 44, 45, 46, 47, 48, 49, 50, 51, 52, 53, 54, 55, 56, 57, 58, 59, 60, 61, 62, 63, 64, 65, 66, 67, 68, 69, 70, 71] (by decide +kernel) (by decide +kernel)
set_option maxRecDepth 20000 in
theorem gX10_price_X10_not : GoodIn wsX10_price (wsV RX10 127 RX10 yX10_not wsX10_not) := goodIn_app (goodIn_of _ (by decide +kernel)) ggX10_price_X10_not
set_option maxRecDepth 20000 in
theorem ggX10_price_X10_act : GoodIn wsX10_price wsX10_act := goodIn_r _ [17, 18, 19, 2, 20, 21, 22, 6, 23, 12, 13, 24, 25, 26, 27, 28, 29, 30, 31, 32, 33, 34, 35, 36, 37, 38, 39, 40, 41, 42, 43, 44, 45, 46, 47, 48, 49, 50, 51, 52, 53, 54, 55, 56, 57, 58, 59, 60, 61, 62, 63, 64, 65, 66, 67, 68, 69, 70, 71] (by decide +kernel) (by decide +kernel)
set_option maxRecDepth 20000 in
theorem gX10_price_X10_act : GoodIn wsX10_price (wsV RX10 131 RX10 yX10_act wsX10_act) := goodIn_app (goodIn_of _ (by decide +kernel)) ggX10_price_X10_act
theorem dX10_price_0 : decode cX10_price 0 = .ok (.aload_n 0, 1) := by decide +kernel
theorem dX10_price_1 : decode cX10_price 1 = .ok (.iconst 0, 1) := by decide +kernel
theorem dX10_price_2 : decode cX10_price 2 = .ok (.putfield 97, 3) := by decide +kernel
theorem dX10_price_5 : decode cX10_price 5 = .ok (.aload_n 0, 1) := by decide +kernel
theorem dX10_price_6 : decode cX10_price 6 = .ok (.iload_n 1, 1) := by decide +kernel
theorem dX10_price_7 : decode cX10_price 7 = .ok (.iconst 0, 1) := by decide +kernel
theorem dX10_price_8 : decode cX10_price 8 = .ok (.iconst 4, 1) := by decide +kernel
theorem dX10_price_9 : decode cX10_price 9 = .ok (.invokevirtual 123, 3) := by decide +kernel
theorem dX10_price_12 : decode cX10_price 12 = .ok (.ifCond .eq 15, 3) := by decide +kernel
theorem dX10_price_15 : decode cX10_price 15 = .ok (.aload_n 0, 1) := by decide +kernel
theorem dX10_price_16 : decode cX10_price 16 = .ok (.iload_n 2, 1) := by decide +kernel
theorem dX10_price_17 : decode cX10_price 17 = .ok (.iconst 0, 1) := by decide +kernel
theorem dX10_price_18 : decode cX10_price 18 = .ok (.sipush 10000, 3) := by decide +kernel
theorem dX10_price_21 : decode cX10_price 21 = .ok (.invokevirtual 123, 3) := by decide +kernel
theorem dX10_price_24 : decode cX10_price 24 = .ok (.ifCond .ne 9, 3) := by decide +kernel
theorem dX10_price_27 : decode cX10_price 27 = .ok (.aload_n 0, 1) := by decide +kernel
theorem dX10_price_28 : decode cX10_price 28 = .ok (.iconst 1, 1) := by decide +kernel
theorem dX10_price_29 : decode cX10_price 29 = .ok (.invokevirtual 127, 3) := by decide +kernel
theorem dX10_price_32 : decode cX10_price 32 = .ok (.ireturn, 1) := by decide +kernel
theorem dX10_price_33 : decode cX10_price 33 = .ok (.aload_n 0, 1) := by decide +kernel
theorem dX10_price_34 : decode cX10_price 34 = .ok (.invokevirtual 131, 3) := by decide +kernel
theorem dX10_price_37 : decode cX10_price 37 = .ok (.aload_n 0, 1) := by decide +kernel
theorem dX10_price_38 : decode cX10_price 38 = .ok (.getfield 7, 3) := by decide +kernel
theorem dX10_price_41 : decode cX10_price 41 = .ok (.bipush 14, 2) := by decide +kernel
theorem dX10_price_43 : decode cX10_price 43 = .ok (.iload_n 1, 1) := by decide +kernel
theorem dX10_price_44 : decode cX10_price 44 = .ok (.iadd, 1) := by decide +kernel
theorem dX10_price_45 : decode cX10_price 45 = .ok (.iload_n 2, 1) := by decide +kernel
theorem dX10_price_46 : decode cX10_price 46 = .ok (.iastore, 1) := by decide +kernel
theorem dX10_price_47 : decode cX10_price 47 = .ok (.iconst 1, 1) := by decide +kernel
theorem dX10_price_48 : decode cX10_price 48 = .ok (.ireturn, 1) := by decide +kernel
set_option maxHeartbeats 4000000 in
set_option maxRecDepth 100000 in
theorem k_X10_price (l : Launch) (D : va_G) (cy : Nat → ClassId) {L : List Nat} {τ : Nat → Ro} {E : Ec} (hI : Inv TB cy L τ E) {a0 : Nat} (ha0 : a0 ∈ L) (ta0 : τ a0 = (11, 0)) (a1 : Int32) (a2 : Int32) (hC : Chain L τ E) : CtI l yX10_price wsX10_price { frames := 2, cells := 0, slots := 0, locals := 41 } D TB cy L τ E [.ref a0, .int a1, .int a2] (inW [(11, 0), (60, 0), (61, 0)]) (fun r E' => ((r.toInt = 1 ∧ 0 ≤ a1.toInt ∧ a1.toInt ≤ 4 ∧ 0 ≤ a2.toInt ∧ a2.toInt ≤ 10000) ∨ (r.toInt = 0 ∧ ¬ (0 ≤ a1.toInt ∧ a1.toInt ≤ 4 ∧ 0 ≤ a2.toInt ∧ a2.toInt ≤ 10000))) ∧ 0 ≤ r.toInt ∧ r.toInt ≤ 1 ∧ (∀ k : Nat, k ∉ ([2, 3, 4, 6] : List Nat) → fi E' a0 k = fi E a0 k) ∧ Chain L τ E') := by
  intro sz
  refine sta (cc := cX10_price) (maxL := 3) hI (by decide) rfl (Nat.le_of_ble_eq_true rfl) (fun p e s m args below meth c ls hsz Z S0 hl => ?_)
  have hx := Z.1.1
  have hb := Z.1.2.1
  have hts := Z.1.2.2.2.2
  have F0_ : Fr L τ (inW [(11, 0), (60, 0), (61, 0)]) E E := Fr.refl
  have hl : lv_has ls 3 [(0, .ref a0), (1, .int a1), (2, .int a2)] := hl
  generalize hQ : MQ below _ args s 0 0 _ = QQ
  obtain ⟨qn, hqn, tqn⟩ := ref_of (k := 0) hI ha0 ta0 rfl rfl
  have tqn : τ qn = (60, 0) := tqn
  obtain ⟨qp, hqp, tqp⟩ := ref_of (k := 1) hI ha0 ta0 rfl rfl
  have tqp : τ qp = (61, 0) := tqp
  have J27 : ∀  (E_27 : Ec) (H_27 : Heap) (k_27 : List Loc) (l_27 : Array Slot), Now D TB cy (va_A (va_pl L E) sz) s L τ E_27 H_27 k_27 → Fr L τ (inW [(11, 0), (60, 0), (61, 0)]) E E_27 → (¬ (0 ≤ a1.toInt ∧ a1.toInt ≤ 4 ∧ 0 ≤ a2.toInt ∧ a2.toInt ≤ 10000)) → (Chain L τ E_27) → (∀ k : Nat, k ∉ ([2, 3, 4, 6] : List Nat) → fi E_27 a0 k = fi E a0 k) → lv_has l_27 3 [(0, .ref a0)] → W p l e { frames := 2, cells := 0, slots := 0, locals := 41 } s m args below meth c H_27 k_27 0 0 QQ (F0 m 27 l_27 []) := by
    intro  E_27 H_27 k_27 l_27 S_27 F_27 z1 z2 z3 hl_27
    refine lv_aload_n hx hb dX10_price_27 rfl (lv_at hl_27 0 rfl) ?_
    obtain ⟨v4, ev4, tv4⟩ : ∃ v : Int32, Int32.ofInt (1) = v ∧ v.toInt = 1 := ⟨_, rfl, by decide +kernel⟩
    refine lv_iconst hx hb dX10_price_28 ev4 ?_
    refine tc_vi Z.1 Z.2.2.2.1 Z.2.2.2.2.1 Z.2.2.2.2.2 S_27.1 S_27.2 ha0 ta0 rfl rfl (k_X10_not l D cy S_27.2 ha0 ta0 v4) (cwV 1 hts gX10_price_X10_not rfl rfl rfl (by decide +kernel) ⟨Nat.le_of_ble_eq_true rfl, Nat.le_of_ble_eq_true rfl⟩) rfl hl_27.1 rfl (Nat.le_of_ble_eq_true rfl) dX10_price_29 ⟨Nat.zero_le _, Nat.zero_le _⟩ (fun v8 E5 H6 k7 W5 I5 G5 p5 => ?_)
    obtain ⟨p5_0, p5_1, p5_2⟩ := p5
    have S5 : Now D TB cy (va_A (va_pl L E) sz) s L τ E5 H6 k7 := ⟨W5, I5⟩
    have F5 : Fr L τ (inW [(11, 0), (60, 0), (61, 0)]) E E5 := F_27.trans (G5.mono (inW_mono (by decide)))
    rw [← hQ]
    exact en_z Z S5 F5 (zo v8 (by omega)) ⟨(by omega), (by omega), (by omega), (fun k hk => ((p5_2 k (fw_sub (by decide) hk)).trans (z3 k hk))), (Chain.same z2 S5.2 ha0 ta0 hqn tqn hqp tqp (G5 qn hqn (by rw [tqn]; rfl)) (G5 qp hqp (by rw [tqp]; rfl)) (p5_2 2 (by decide)))⟩ dX10_price_32
  refine lv_aload_n hx hb dX10_price_0 rfl (lv_at hl 0 rfl) ?_
  obtain ⟨v9, ev9, tv9⟩ : ∃ v : Int32, Int32.ofInt (0) = v ∧ v.toInt = 0 := ⟨_, rfl, by decide +kernel⟩
  refine lv_iconst hx hb dX10_price_1 ev9 ?_
  refine tr_puti Z.1 Z.2.2.2.1 S0.1 S0.2 ha0 ta0 rfl rfl (fun _ h => List.mem_cons_of_mem _ (List.mem_append_right _ h)) tyX10_ok nmX10 4 (by decide) rfl rfl rfl (hts _ (List.mem_of_getElem? (i := 1) rfl)) dX10_price_2 (by omega) (by omega) (fun E10 H11 k12 W10 I10 P10 => ?_)
  have S10 : Now D TB cy (va_A (va_pl L E) sz) s L τ E10 H11 k12 := ⟨W10, I10⟩
  have F10 : Fr L τ (inW [(11, 0), (60, 0), (61, 0)]) E E10 := Fr.put F0_ P10 ta0 rfl
  refine lv_aload_n hx hb dX10_price_5 rfl (lv_at hl 0 rfl) ?_
  refine lv_iload_n hx hb dX10_price_6 rfl (lv_at hl 1 rfl) ?_
  obtain ⟨v13, ev13, tv13⟩ : ∃ v : Int32, Int32.ofInt (0) = v ∧ v.toInt = 0 := ⟨_, rfl, by decide +kernel⟩
  refine lv_iconst hx hb dX10_price_7 ev13 ?_
  obtain ⟨v14, ev14, tv14⟩ : ∃ v : Int32, Int32.ofInt (4) = v ∧ v.toInt = 4 := ⟨_, rfl, by decide +kernel⟩
  refine lv_iconst hx hb dX10_price_8 ev14 ?_
  refine tc_vi Z.1 Z.2.2.2.1 Z.2.2.2.2.1 Z.2.2.2.2.2 S10.1 S10.2 ha0 ta0 rfl rfl (k_X10_in l D cy S10.2 ha0 ta0 a1 v13 v14) (cwV 3 hts gX10_price_X10_in rfl rfl rfl (by decide +kernel) ⟨Nat.le_of_ble_eq_true rfl, Nat.le_of_ble_eq_true rfl⟩) rfl hl.1 rfl (Nat.le_of_ble_eq_true rfl) dX10_price_9 ⟨Nat.zero_le _, Nat.zero_le _⟩ (fun v18 E15 H16 k17 W15 I15 G15 p15 => ?_)
  obtain ⟨q15, p15_0, p15_1, p15_2⟩ := p15
  have q15 := q15.symm
  subst q15
  have S15 : Now D TB cy (va_A (va_pl L E) sz) s L τ E10 H16 k17 := ⟨W15, I15⟩
  refine lv_if_eq (tgt := 27) hx hb dX10_price_12 (by decide) (fun c19 => ?_) (fun c19 => ?_)
  · skip
    have tc19 := nu_eq c19
    have uc19 : (0 : Int32).toInt = 0 := rfl
    exact J27 E10 H16 k17 ls S15 F10 (by have := fb_rng a1; have := fb_rng a2; omega) (Chain.same hC S15.2 ha0 ta0 hqn tqn hqp tqp (P10.1 qn (ne_ro tqn ta0 (by decide))) (P10.1 qp (ne_ro tqp ta0 (by decide))) (fi_put P10 (Or.inr (by decide)))) (fun k hk => ((fi_put P10 (Or.inr (fw_ne (by decide) hk))).trans ((fun k hk => rfl) k hk))) (lv_sub hl [0] rfl)
  · skip
    have tc19 := nu_ne c19
    have uc19 : (0 : Int32).toInt = 0 := rfl
    refine lv_aload_n hx hb dX10_price_15 rfl (lv_at hl 0 rfl) ?_
    refine lv_iload_n hx hb dX10_price_16 rfl (lv_at hl 2 rfl) ?_
    obtain ⟨v20, ev20, tv20⟩ : ∃ v : Int32, Int32.ofInt (0) = v ∧ v.toInt = 0 := ⟨_, rfl, by decide +kernel⟩
    refine lv_iconst hx hb dX10_price_17 ev20 ?_
    obtain ⟨v21, ev21, tv21⟩ : ∃ v : Int32, (Int16.ofInt (10000)).toInt32 = v ∧ v.toInt = 10000 := ⟨_, rfl, by decide +kernel⟩
    refine lv_sipush hx hb dX10_price_18 ev21 ?_
    refine tc_vi Z.1 Z.2.2.2.1 Z.2.2.2.2.1 Z.2.2.2.2.2 S15.1 S15.2 ha0 ta0 rfl rfl (k_X10_in l D cy S15.2 ha0 ta0 a2 v20 v21) (cwV 3 hts gX10_price_X10_in rfl rfl rfl (by decide +kernel) ⟨Nat.le_of_ble_eq_true rfl, Nat.le_of_ble_eq_true rfl⟩) rfl hl.1 rfl (Nat.le_of_ble_eq_true rfl) dX10_price_21 ⟨Nat.zero_le _, Nat.zero_le _⟩ (fun v25 E22 H23 k24 W22 I22 G22 p22 => ?_)
    obtain ⟨q22, p22_0, p22_1, p22_2⟩ := p22
    have q22 := q22.symm
    subst q22
    have S22 : Now D TB cy (va_A (va_pl L E) sz) s L τ E10 H23 k24 := ⟨W22, I22⟩
    refine lv_if_ne (tgt := 33) hx hb dX10_price_24 (by decide) (fun c26 => ?_) (fun c26 => ?_)
    · skip
      have tc26 := nu_ne c26
      have uc26 : (0 : Int32).toInt = 0 := rfl
      refine lv_aload_n hx hb dX10_price_33 rfl (lv_at hl 0 rfl) ?_
      refine tc_vv Z.1 Z.2.2.2.1 Z.2.2.2.2.1 Z.2.2.2.2.2 S22.1 S22.2 ha0 ta0 rfl rfl (k_X10_act l D cy S22.2 ha0 ta0 (Chain.same hC S22.2 ha0 ta0 hqn tqn hqp tqp (P10.1 qn (ne_ro tqn ta0 (by decide))) (P10.1 qp (ne_ro tqp ta0 (by decide))) (fi_put P10 (Or.inr (by decide))))) (cwV 0 hts gX10_price_X10_act rfl rfl rfl (by decide +kernel) ⟨Nat.le_of_ble_eq_true rfl, Nat.le_of_ble_eq_true rfl⟩) rfl hl.1 rfl (Nat.le_of_ble_eq_true rfl) dX10_price_34 ⟨Nat.zero_le _, Nat.zero_le _⟩ (fun E27 H28 k29 W27 I27 G27 p27 => ?_)
      obtain ⟨p27_0, p27_1⟩ := p27
      have S27 : Now D TB cy (va_A (va_pl L E) sz) s L τ E27 H28 k29 := ⟨W27, I27⟩
      have F27 : Fr L τ (inW [(11, 0), (60, 0), (61, 0)]) E E27 := F10.trans (G27.mono (inW_mono (by decide)))
      have C31 : ∀ T : Nat → Int32, Link (ai E qn) T → ChW E27 a0 qp T := fun T hT => p27_0 qn hqn tqn qp hqp tqp T (by rw [ai_cell (P10.1 qn (ne_ro tqn ta0 (by decide)))]; exact hT)
      have B32 : ∀ j : Nat, 44 ≤ j → j ≤ 52 → ai E27 qn j = ai E qn j := fun j _ _ => ((ai_fr G27 hqn (by rw [tqn]; rfl)).trans (ai_put P10 (ne_ro tqn ta0 (by decide))))
      refine lv_aload_n hx hb dX10_price_37 rfl (lv_at hl 0 rfl) ?_
      refine tr_getr Z.1 Z.2.2.2.1 S27.1 S27.2 ha0 ta0 rfl rfl (fun _ h => List.mem_cons_of_mem _ (List.mem_append_right _ h)) 0 (by decide) rfl (hts _ (List.mem_of_getElem? (i := 2) rfl)) dX10_price_38 (fun q33 eq33 hq33 tq33 => ?_)
      have tq33 : τ q33 = (60, 0) := tq33
      have uq33 : qn = q33 := S27.2.2.2.2 _ hqn _ hq33 (tqn.trans tq33.symm) (by rw [tqn]; rfl)
      subst uq33
      obtain ⟨v34, ev34, tv34⟩ : ∃ v : Int32, (Int8.ofInt (14)).toInt32 = v ∧ v.toInt = 14 := ⟨_, rfl, by decide +kernel⟩
      refine lv_bipush hx hb dX10_price_41 ev34 ?_
      refine lv_iload_n hx hb dX10_price_43 rfl (lv_at hl 1 rfl) ?_
      refine lv_iadd hx hb dX10_price_44 ?_
      refine lv_topi (fun v35 ev35 => ?_)
      have tv35 := nu_add ev35 (by omega) (by omega)
      refine lv_iload_n hx hb dX10_price_45 rfl (lv_at hl 2 rfl) ?_
      have b36 : nowB v35.toNatClampNeg = (-2147483648, 2147483647) := nb_o (by show v35.toInt.toNat < 4 ∨ (8 ≤ v35.toInt.toNat ∧ v35.toInt.toNat ≤ 18) ∨ (20 ≤ v35.toInt.toNat ∧ v35.toInt.toNat ≤ 43); omega)
      have b36 : (nowB v35.toNatClampNeg).1 ≤ a2.toInt ∧ a2.toInt ≤ (nowB v35.toNatClampNeg).2 := by rw [b36]; have := fb_rng a2; show -2147483648 ≤ a2.toInt ∧ a2.toInt ≤ 2147483647; omega
      refine tr_iastx Z.1 Z.2.2.2.1 S27.1 S27.2 hqn tqn rfl (by omega) (by omega) b36.1 b36.2 dX10_price_46 (fun E36 H37 k38 W36 I36 P36 => ?_)
      have S36 : Now D TB cy (va_A (va_pl L E) sz) s L τ E36 H37 k38 := ⟨W36, I36⟩
      have F36 : Fr L τ (inW [(11, 0), (60, 0), (61, 0)]) E E36 := Fr.set F27 P36 tqn rfl
      obtain ⟨v39, ev39, tv39⟩ : ∃ v : Int32, Int32.ofInt (1) = v ∧ v.toInt = 1 := ⟨_, rfl, by decide +kernel⟩
      refine lv_iconst hx hb dX10_price_47 ev39 ?_
      rw [← hQ]
      exact en_z Z S36 F36 (zo v39 (by omega)) ⟨(by omega), (by omega), (by omega), (fun k hk => ((fi_set P36 (ne_ro ta0 tqn (by decide))).trans ((p27_1 k (fw_sub (by decide) hk)).trans ((fi_put P10 (Or.inr (fw_ne (by decide) hk))).trans ((fun k hk => rfl) k hk))))), (Chain.post C31 S36.2 ha0 ta0 hqn tqn hqp tqp (P36.1 qp (ne_ro tqp tqn (by decide))) (fi_set P36 (ne_ro ta0 tqn (by decide))) (Link.ag (fun j h1 h2 => ((ai_setk P36 (by show j ≠ v35.toInt.toNat; omega)).trans (B32 j h1 h2)))))⟩ dX10_price_48
    · skip
      have tc26 := nu_eq c26
      have uc26 : (0 : Int32).toInt = 0 := rfl
      exact J27 E10 H23 k24 ls S22 F10 (by have := fb_rng a2; omega) (Chain.same hC S22.2 ha0 ta0 hqn tqn hqp tqp (P10.1 qn (ne_ro tqn ta0 (by decide))) (P10.1 qp (ne_ro tqp ta0 (by decide))) (fi_put P10 (Or.inr (by decide)))) (fun k hk => ((fi_put P10 (Or.inr (fw_ne (by decide) hk))).trans ((fun k hk => rfl) k hk))) (lv_sub hl [0] rfl)

set_option maxRecDepth 20000 in
theorem ggX10_measures_X10_in : GoodIn wsX10_measures wsX10_in := goodIn_r _ [7] (by decide +kernel) (by decide +kernel)
set_option maxRecDepth 20000 in
theorem gX10_measures_X10_in : GoodIn wsX10_measures (wsV RX10 123 RX10 yX10_in wsX10_in) := goodIn_app (goodIn_of _ (by decide +kernel)) ggX10_measures_X10_in
set_option maxRecDepth 20000 in
theorem ggX10_measures_X10_not : GoodIn wsX10_measures wsX10_not := goodIn_r _ [11, 12, 13, 24, 25, 26, 27, 28, 29, 30, 31, 32, 33, 34, 35, 36, 37, 38, 39, 40, 41, 42, 43, 44, 45, 46, 47, 48, 49, 50, 51, 52, 53, 54, 55, 56, 57, 58, 59, 60, 61, 62, 63, 64, 65, 66, 67, 68, 69, 70, 71] (by decide +kernel) (by decide +kernel)
set_option maxRecDepth 20000 in
theorem gX10_measures_X10_not : GoodIn wsX10_measures (wsV RX10 127 RX10 yX10_not wsX10_not) := goodIn_app (goodIn_of _ (by decide +kernel)) ggX10_measures_X10_not
set_option maxRecDepth 20000 in
theorem ggX10_measures_X10_act : GoodIn wsX10_measures wsX10_act := goodIn_r _ [17, 18, 19, 2, 20, 21, 22, 6, 23, 12, 13, 24, 25, 26, 27, 28, 29, 30, 31, 32, 33, 34, 35, 36, 37, 38, 39, 40, 41, 42, 43, 44, 45, 46, 47, 48, 49, 50, 51, 52, 53, 54, 55, 56, 57, 58, 59, 60, 61, 62, 63, 64, 65, 66, 67, 68, 69, 70, 71] (by decide +kernel) (by decide +kernel)
set_option maxRecDepth 20000 in
theorem gX10_measures_X10_act : GoodIn wsX10_measures (wsV RX10 131 RX10 yX10_act wsX10_act) := goodIn_app (goodIn_of _ (by decide +kernel)) ggX10_measures_X10_act
theorem dX10_measures_0 : decode cX10_measures 0 = .ok (.aload_n 0, 1) := by decide +kernel
theorem dX10_measures_1 : decode cX10_measures 1 = .ok (.iconst 0, 1) := by decide +kernel
theorem dX10_measures_2 : decode cX10_measures 2 = .ok (.putfield 97, 3) := by decide +kernel
theorem dX10_measures_5 : decode cX10_measures 5 = .ok (.aload_n 0, 1) := by decide +kernel
theorem dX10_measures_6 : decode cX10_measures 6 = .ok (.iload_n 1, 1) := by decide +kernel
theorem dX10_measures_7 : decode cX10_measures 7 = .ok (.sipush 500, 3) := by decide +kernel
theorem dX10_measures_10 : decode cX10_measures 10 = .ok (.sipush 6000, 3) := by decide +kernel
theorem dX10_measures_13 : decode cX10_measures 13 = .ok (.invokevirtual 123, 3) := by decide +kernel
theorem dX10_measures_16 : decode cX10_measures 16 = .ok (.ifCond .eq 45, 3) := by decide +kernel
theorem dX10_measures_19 : decode cX10_measures 19 = .ok (.aload_n 0, 1) := by decide +kernel
theorem dX10_measures_20 : decode cX10_measures 20 = .ok (.iload_n 2, 1) := by decide +kernel
theorem dX10_measures_21 : decode cX10_measures 21 = .ok (.sipush 500, 3) := by decide +kernel
theorem dX10_measures_24 : decode cX10_measures 24 = .ok (.sipush 1500, 3) := by decide +kernel
theorem dX10_measures_27 : decode cX10_measures 27 = .ok (.invokevirtual 123, 3) := by decide +kernel
theorem dX10_measures_30 : decode cX10_measures 30 = .ok (.ifCond .eq 31, 3) := by decide +kernel
theorem dX10_measures_33 : decode cX10_measures 33 = .ok (.aload_n 0, 1) := by decide +kernel
theorem dX10_measures_34 : decode cX10_measures 34 = .ok (.iload_n 3, 1) := by decide +kernel
theorem dX10_measures_35 : decode cX10_measures 35 = .ok (.sipush 200, 3) := by decide +kernel
theorem dX10_measures_38 : decode cX10_measures 38 = .ok (.sipush 500, 3) := by decide +kernel
theorem dX10_measures_41 : decode cX10_measures 41 = .ok (.invokevirtual 123, 3) := by decide +kernel
theorem dX10_measures_44 : decode cX10_measures 44 = .ok (.ifCond .eq 17, 3) := by decide +kernel
theorem dX10_measures_47 : decode cX10_measures 47 = .ok (.aload_n 0, 1) := by decide +kernel
theorem dX10_measures_48 : decode cX10_measures 48 = .ok (.iload 4, 2) := by decide +kernel
theorem dX10_measures_50 : decode cX10_measures 50 = .ok (.bipush 20, 2) := by decide +kernel
theorem dX10_measures_52 : decode cX10_measures 52 = .ok (.sipush 150, 3) := by decide +kernel
theorem dX10_measures_55 : decode cX10_measures 55 = .ok (.invokevirtual 123, 3) := by decide +kernel
theorem dX10_measures_58 : decode cX10_measures 58 = .ok (.ifCond .ne 9, 3) := by decide +kernel
theorem dX10_measures_61 : decode cX10_measures 61 = .ok (.aload_n 0, 1) := by decide +kernel
theorem dX10_measures_62 : decode cX10_measures 62 = .ok (.iconst 1, 1) := by decide +kernel
theorem dX10_measures_63 : decode cX10_measures 63 = .ok (.invokevirtual 127, 3) := by decide +kernel
theorem dX10_measures_66 : decode cX10_measures 66 = .ok (.ireturn, 1) := by decide +kernel
theorem dX10_measures_67 : decode cX10_measures 67 = .ok (.aload_n 0, 1) := by decide +kernel
theorem dX10_measures_68 : decode cX10_measures 68 = .ok (.invokevirtual 131, 3) := by decide +kernel
theorem dX10_measures_71 : decode cX10_measures 71 = .ok (.aload_n 0, 1) := by decide +kernel
theorem dX10_measures_72 : decode cX10_measures 72 = .ok (.getfield 7, 3) := by decide +kernel
theorem dX10_measures_75 : decode cX10_measures 75 = .ok (.iconst 0, 1) := by decide +kernel
theorem dX10_measures_76 : decode cX10_measures 76 = .ok (.iload_n 1, 1) := by decide +kernel
theorem dX10_measures_77 : decode cX10_measures 77 = .ok (.iastore, 1) := by decide +kernel
theorem dX10_measures_78 : decode cX10_measures 78 = .ok (.aload_n 0, 1) := by decide +kernel
theorem dX10_measures_79 : decode cX10_measures 79 = .ok (.getfield 7, 3) := by decide +kernel
theorem dX10_measures_82 : decode cX10_measures 82 = .ok (.iconst 1, 1) := by decide +kernel
theorem dX10_measures_83 : decode cX10_measures 83 = .ok (.iload_n 2, 1) := by decide +kernel
theorem dX10_measures_84 : decode cX10_measures 84 = .ok (.iastore, 1) := by decide +kernel
theorem dX10_measures_85 : decode cX10_measures 85 = .ok (.aload_n 0, 1) := by decide +kernel
theorem dX10_measures_86 : decode cX10_measures 86 = .ok (.getfield 7, 3) := by decide +kernel
theorem dX10_measures_89 : decode cX10_measures 89 = .ok (.iconst 2, 1) := by decide +kernel
theorem dX10_measures_90 : decode cX10_measures 90 = .ok (.iload_n 3, 1) := by decide +kernel
theorem dX10_measures_91 : decode cX10_measures 91 = .ok (.iastore, 1) := by decide +kernel
theorem dX10_measures_92 : decode cX10_measures 92 = .ok (.aload_n 0, 1) := by decide +kernel
theorem dX10_measures_93 : decode cX10_measures 93 = .ok (.getfield 7, 3) := by decide +kernel
theorem dX10_measures_96 : decode cX10_measures 96 = .ok (.iconst 3, 1) := by decide +kernel
theorem dX10_measures_97 : decode cX10_measures 97 = .ok (.iload 4, 2) := by decide +kernel
theorem dX10_measures_99 : decode cX10_measures 99 = .ok (.iastore, 1) := by decide +kernel
theorem dX10_measures_100 : decode cX10_measures 100 = .ok (.iconst 1, 1) := by decide +kernel
theorem dX10_measures_101 : decode cX10_measures 101 = .ok (.ireturn, 1) := by decide +kernel
set_option maxHeartbeats 4000000 in
set_option maxRecDepth 100000 in
theorem k_X10_measures (l : Launch) (D : va_G) (cy : Nat → ClassId) {L : List Nat} {τ : Nat → Ro} {E : Ec} (hI : Inv TB cy L τ E) {a0 : Nat} (ha0 : a0 ∈ L) (ta0 : τ a0 = (11, 0)) (a1 : Int32) (a2 : Int32) (a3 : Int32) (a4 : Int32) (hC : Chain L τ E) : CtI l yX10_measures wsX10_measures { frames := 2, cells := 0, slots := 0, locals := 41 } D TB cy L τ E [.ref a0, .int a1, .int a2, .int a3, .int a4] (inW [(11, 0), (60, 0), (61, 0)]) (fun r E' => ((r.toInt = 1 ∧ 500 ≤ a1.toInt ∧ a1.toInt ≤ 6000 ∧ 500 ≤ a2.toInt ∧ a2.toInt ≤ 1500 ∧ 200 ≤ a3.toInt ∧ a3.toInt ≤ 500 ∧ 20 ≤ a4.toInt ∧ a4.toInt ≤ 150) ∨ (r.toInt = 0 ∧ ¬ (500 ≤ a1.toInt ∧ a1.toInt ≤ 6000 ∧ 500 ≤ a2.toInt ∧ a2.toInt ≤ 1500 ∧ 200 ≤ a3.toInt ∧ a3.toInt ≤ 500 ∧ 20 ≤ a4.toInt ∧ a4.toInt ≤ 150))) ∧ 0 ≤ r.toInt ∧ r.toInt ≤ 1 ∧ (∀ k : Nat, k ∉ ([2, 3, 4, 6] : List Nat) → fi E' a0 k = fi E a0 k) ∧ Chain L τ E') := by
  intro sz
  refine sta (cc := cX10_measures) (maxL := 5) hI (by decide) rfl (Nat.le_of_ble_eq_true rfl) (fun p e s m args below meth c ls hsz Z S0 hl => ?_)
  have hx := Z.1.1
  have hb := Z.1.2.1
  have hts := Z.1.2.2.2.2
  have F0_ : Fr L τ (inW [(11, 0), (60, 0), (61, 0)]) E E := Fr.refl
  have hl : lv_has ls 5 [(0, .ref a0), (1, .int a1), (2, .int a2), (3, .int a3), (4, .int a4)] := hl
  generalize hQ : MQ below _ args s 0 0 _ = QQ
  obtain ⟨qn, hqn, tqn⟩ := ref_of (k := 0) hI ha0 ta0 rfl rfl
  have tqn : τ qn = (60, 0) := tqn
  obtain ⟨qp, hqp, tqp⟩ := ref_of (k := 1) hI ha0 ta0 rfl rfl
  have tqp : τ qp = (61, 0) := tqp
  have J61 : ∀  (E_61 : Ec) (H_61 : Heap) (k_61 : List Loc) (l_61 : Array Slot), Now D TB cy (va_A (va_pl L E) sz) s L τ E_61 H_61 k_61 → Fr L τ (inW [(11, 0), (60, 0), (61, 0)]) E E_61 → (¬ (500 ≤ a1.toInt ∧ a1.toInt ≤ 6000 ∧ 500 ≤ a2.toInt ∧ a2.toInt ≤ 1500 ∧ 200 ≤ a3.toInt ∧ a3.toInt ≤ 500 ∧ 20 ≤ a4.toInt ∧ a4.toInt ≤ 150)) → (Chain L τ E_61) → (∀ k : Nat, k ∉ ([2, 3, 4, 6] : List Nat) → fi E_61 a0 k = fi E a0 k) → lv_has l_61 5 [(0, .ref a0)] → W p l e { frames := 2, cells := 0, slots := 0, locals := 41 } s m args below meth c H_61 k_61 0 0 QQ (F0 m 61 l_61 []) := by
    intro  E_61 H_61 k_61 l_61 S_61 F_61 z1 z2 z3 hl_61
    refine lv_aload_n hx hb dX10_measures_61 rfl (lv_at hl_61 0 rfl) ?_
    obtain ⟨v4, ev4, tv4⟩ : ∃ v : Int32, Int32.ofInt (1) = v ∧ v.toInt = 1 := ⟨_, rfl, by decide +kernel⟩
    refine lv_iconst hx hb dX10_measures_62 ev4 ?_
    refine tc_vi Z.1 Z.2.2.2.1 Z.2.2.2.2.1 Z.2.2.2.2.2 S_61.1 S_61.2 ha0 ta0 rfl rfl (k_X10_not l D cy S_61.2 ha0 ta0 v4) (cwV 1 hts gX10_measures_X10_not rfl rfl rfl (by decide +kernel) ⟨Nat.le_of_ble_eq_true rfl, Nat.le_of_ble_eq_true rfl⟩) rfl hl_61.1 rfl (Nat.le_of_ble_eq_true rfl) dX10_measures_63 ⟨Nat.zero_le _, Nat.zero_le _⟩ (fun v8 E5 H6 k7 W5 I5 G5 p5 => ?_)
    obtain ⟨p5_0, p5_1, p5_2⟩ := p5
    have S5 : Now D TB cy (va_A (va_pl L E) sz) s L τ E5 H6 k7 := ⟨W5, I5⟩
    have F5 : Fr L τ (inW [(11, 0), (60, 0), (61, 0)]) E E5 := F_61.trans (G5.mono (inW_mono (by decide)))
    rw [← hQ]
    exact en_z Z S5 F5 (zo v8 (by omega)) ⟨(by omega), (by omega), (by omega), (fun k hk => ((p5_2 k (fw_sub (by decide) hk)).trans (z3 k hk))), (Chain.same z2 S5.2 ha0 ta0 hqn tqn hqp tqp (G5 qn hqn (by rw [tqn]; rfl)) (G5 qp hqp (by rw [tqp]; rfl)) (p5_2 2 (by decide)))⟩ dX10_measures_66
  refine lv_aload_n hx hb dX10_measures_0 rfl (lv_at hl 0 rfl) ?_
  obtain ⟨v9, ev9, tv9⟩ : ∃ v : Int32, Int32.ofInt (0) = v ∧ v.toInt = 0 := ⟨_, rfl, by decide +kernel⟩
  refine lv_iconst hx hb dX10_measures_1 ev9 ?_
  refine tr_puti Z.1 Z.2.2.2.1 S0.1 S0.2 ha0 ta0 rfl rfl (fun _ h => List.mem_cons_of_mem _ (List.mem_append_right _ h)) tyX10_ok nmX10 4 (by decide) rfl rfl rfl (hts _ (List.mem_of_getElem? (i := 1) rfl)) dX10_measures_2 (by omega) (by omega) (fun E10 H11 k12 W10 I10 P10 => ?_)
  have S10 : Now D TB cy (va_A (va_pl L E) sz) s L τ E10 H11 k12 := ⟨W10, I10⟩
  have F10 : Fr L τ (inW [(11, 0), (60, 0), (61, 0)]) E E10 := Fr.put F0_ P10 ta0 rfl
  refine lv_aload_n hx hb dX10_measures_5 rfl (lv_at hl 0 rfl) ?_
  refine lv_iload_n hx hb dX10_measures_6 rfl (lv_at hl 1 rfl) ?_
  obtain ⟨v13, ev13, tv13⟩ : ∃ v : Int32, (Int16.ofInt (500)).toInt32 = v ∧ v.toInt = 500 := ⟨_, rfl, by decide +kernel⟩
  refine lv_sipush hx hb dX10_measures_7 ev13 ?_
  obtain ⟨v14, ev14, tv14⟩ : ∃ v : Int32, (Int16.ofInt (6000)).toInt32 = v ∧ v.toInt = 6000 := ⟨_, rfl, by decide +kernel⟩
  refine lv_sipush hx hb dX10_measures_10 ev14 ?_
  refine tc_vi Z.1 Z.2.2.2.1 Z.2.2.2.2.1 Z.2.2.2.2.2 S10.1 S10.2 ha0 ta0 rfl rfl (k_X10_in l D cy S10.2 ha0 ta0 a1 v13 v14) (cwV 3 hts gX10_measures_X10_in rfl rfl rfl (by decide +kernel) ⟨Nat.le_of_ble_eq_true rfl, Nat.le_of_ble_eq_true rfl⟩) rfl hl.1 rfl (Nat.le_of_ble_eq_true rfl) dX10_measures_13 ⟨Nat.zero_le _, Nat.zero_le _⟩ (fun v18 E15 H16 k17 W15 I15 G15 p15 => ?_)
  obtain ⟨q15, p15_0, p15_1, p15_2⟩ := p15
  have q15 := q15.symm
  subst q15
  have S15 : Now D TB cy (va_A (va_pl L E) sz) s L τ E10 H16 k17 := ⟨W15, I15⟩
  refine lv_if_eq (tgt := 61) hx hb dX10_measures_16 (by decide) (fun c19 => ?_) (fun c19 => ?_)
  · skip
    have tc19 := nu_eq c19
    have uc19 : (0 : Int32).toInt = 0 := rfl
    exact J61 E10 H16 k17 ls S15 F10 (by have := fb_rng a1; have := fb_rng a2; have := fb_rng a3; have := fb_rng a4; omega) (Chain.same hC S15.2 ha0 ta0 hqn tqn hqp tqp (P10.1 qn (ne_ro tqn ta0 (by decide))) (P10.1 qp (ne_ro tqp ta0 (by decide))) (fi_put P10 (Or.inr (by decide)))) (fun k hk => ((fi_put P10 (Or.inr (fw_ne (by decide) hk))).trans ((fun k hk => rfl) k hk))) (lv_sub hl [0] rfl)
  · skip
    have tc19 := nu_ne c19
    have uc19 : (0 : Int32).toInt = 0 := rfl
    refine lv_aload_n hx hb dX10_measures_19 rfl (lv_at hl 0 rfl) ?_
    refine lv_iload_n hx hb dX10_measures_20 rfl (lv_at hl 2 rfl) ?_
    obtain ⟨v20, ev20, tv20⟩ : ∃ v : Int32, (Int16.ofInt (500)).toInt32 = v ∧ v.toInt = 500 := ⟨_, rfl, by decide +kernel⟩
    refine lv_sipush hx hb dX10_measures_21 ev20 ?_
    obtain ⟨v21, ev21, tv21⟩ : ∃ v : Int32, (Int16.ofInt (1500)).toInt32 = v ∧ v.toInt = 1500 := ⟨_, rfl, by decide +kernel⟩
    refine lv_sipush hx hb dX10_measures_24 ev21 ?_
    refine tc_vi Z.1 Z.2.2.2.1 Z.2.2.2.2.1 Z.2.2.2.2.2 S15.1 S15.2 ha0 ta0 rfl rfl (k_X10_in l D cy S15.2 ha0 ta0 a2 v20 v21) (cwV 3 hts gX10_measures_X10_in rfl rfl rfl (by decide +kernel) ⟨Nat.le_of_ble_eq_true rfl, Nat.le_of_ble_eq_true rfl⟩) rfl hl.1 rfl (Nat.le_of_ble_eq_true rfl) dX10_measures_27 ⟨Nat.zero_le _, Nat.zero_le _⟩ (fun v25 E22 H23 k24 W22 I22 G22 p22 => ?_)
    obtain ⟨q22, p22_0, p22_1, p22_2⟩ := p22
    have q22 := q22.symm
    subst q22
    have S22 : Now D TB cy (va_A (va_pl L E) sz) s L τ E10 H23 k24 := ⟨W22, I22⟩
    refine lv_if_eq (tgt := 61) hx hb dX10_measures_30 (by decide) (fun c26 => ?_) (fun c26 => ?_)
    · skip
      have tc26 := nu_eq c26
      have uc26 : (0 : Int32).toInt = 0 := rfl
      exact J61 E10 H23 k24 ls S22 F10 (by have := fb_rng a2; have := fb_rng a3; have := fb_rng a4; omega) (Chain.same hC S22.2 ha0 ta0 hqn tqn hqp tqp (P10.1 qn (ne_ro tqn ta0 (by decide))) (P10.1 qp (ne_ro tqp ta0 (by decide))) (fi_put P10 (Or.inr (by decide)))) (fun k hk => ((fi_put P10 (Or.inr (fw_ne (by decide) hk))).trans ((fun k hk => rfl) k hk))) (lv_sub hl [0] rfl)
    · skip
      have tc26 := nu_ne c26
      have uc26 : (0 : Int32).toInt = 0 := rfl
      refine lv_aload_n hx hb dX10_measures_33 rfl (lv_at hl 0 rfl) ?_
      refine lv_iload_n hx hb dX10_measures_34 rfl (lv_at hl 3 rfl) ?_
      obtain ⟨v27, ev27, tv27⟩ : ∃ v : Int32, (Int16.ofInt (200)).toInt32 = v ∧ v.toInt = 200 := ⟨_, rfl, by decide +kernel⟩
      refine lv_sipush hx hb dX10_measures_35 ev27 ?_
      obtain ⟨v28, ev28, tv28⟩ : ∃ v : Int32, (Int16.ofInt (500)).toInt32 = v ∧ v.toInt = 500 := ⟨_, rfl, by decide +kernel⟩
      refine lv_sipush hx hb dX10_measures_38 ev28 ?_
      refine tc_vi Z.1 Z.2.2.2.1 Z.2.2.2.2.1 Z.2.2.2.2.2 S22.1 S22.2 ha0 ta0 rfl rfl (k_X10_in l D cy S22.2 ha0 ta0 a3 v27 v28) (cwV 3 hts gX10_measures_X10_in rfl rfl rfl (by decide +kernel) ⟨Nat.le_of_ble_eq_true rfl, Nat.le_of_ble_eq_true rfl⟩) rfl hl.1 rfl (Nat.le_of_ble_eq_true rfl) dX10_measures_41 ⟨Nat.zero_le _, Nat.zero_le _⟩ (fun v32 E29 H30 k31 W29 I29 G29 p29 => ?_)
      obtain ⟨q29, p29_0, p29_1, p29_2⟩ := p29
      have q29 := q29.symm
      subst q29
      have S29 : Now D TB cy (va_A (va_pl L E) sz) s L τ E10 H30 k31 := ⟨W29, I29⟩
      refine lv_if_eq (tgt := 61) hx hb dX10_measures_44 (by decide) (fun c33 => ?_) (fun c33 => ?_)
      · skip
        have tc33 := nu_eq c33
        have uc33 : (0 : Int32).toInt = 0 := rfl
        exact J61 E10 H30 k31 ls S29 F10 (by have := fb_rng a3; have := fb_rng a4; omega) (Chain.same hC S29.2 ha0 ta0 hqn tqn hqp tqp (P10.1 qn (ne_ro tqn ta0 (by decide))) (P10.1 qp (ne_ro tqp ta0 (by decide))) (fi_put P10 (Or.inr (by decide)))) (fun k hk => ((fi_put P10 (Or.inr (fw_ne (by decide) hk))).trans ((fun k hk => rfl) k hk))) (lv_sub hl [0] rfl)
      · skip
        have tc33 := nu_ne c33
        have uc33 : (0 : Int32).toInt = 0 := rfl
        refine lv_aload_n hx hb dX10_measures_47 rfl (lv_at hl 0 rfl) ?_
        refine lv_iload hx hb dX10_measures_48 (lv_at hl 4 rfl) ?_
        obtain ⟨v34, ev34, tv34⟩ : ∃ v : Int32, (Int8.ofInt (20)).toInt32 = v ∧ v.toInt = 20 := ⟨_, rfl, by decide +kernel⟩
        refine lv_bipush hx hb dX10_measures_50 ev34 ?_
        obtain ⟨v35, ev35, tv35⟩ : ∃ v : Int32, (Int16.ofInt (150)).toInt32 = v ∧ v.toInt = 150 := ⟨_, rfl, by decide +kernel⟩
        refine lv_sipush hx hb dX10_measures_52 ev35 ?_
        refine tc_vi Z.1 Z.2.2.2.1 Z.2.2.2.2.1 Z.2.2.2.2.2 S29.1 S29.2 ha0 ta0 rfl rfl (k_X10_in l D cy S29.2 ha0 ta0 a4 v34 v35) (cwV 3 hts gX10_measures_X10_in rfl rfl rfl (by decide +kernel) ⟨Nat.le_of_ble_eq_true rfl, Nat.le_of_ble_eq_true rfl⟩) rfl hl.1 rfl (Nat.le_of_ble_eq_true rfl) dX10_measures_55 ⟨Nat.zero_le _, Nat.zero_le _⟩ (fun v39 E36 H37 k38 W36 I36 G36 p36 => ?_)
        obtain ⟨q36, p36_0, p36_1, p36_2⟩ := p36
        have q36 := q36.symm
        subst q36
        have S36 : Now D TB cy (va_A (va_pl L E) sz) s L τ E10 H37 k38 := ⟨W36, I36⟩
        refine lv_if_ne (tgt := 67) hx hb dX10_measures_58 (by decide) (fun c40 => ?_) (fun c40 => ?_)
        · skip
          have tc40 := nu_ne c40
          have uc40 : (0 : Int32).toInt = 0 := rfl
          refine lv_aload_n hx hb dX10_measures_67 rfl (lv_at hl 0 rfl) ?_
          refine tc_vv Z.1 Z.2.2.2.1 Z.2.2.2.2.1 Z.2.2.2.2.2 S36.1 S36.2 ha0 ta0 rfl rfl (k_X10_act l D cy S36.2 ha0 ta0 (Chain.same hC S36.2 ha0 ta0 hqn tqn hqp tqp (P10.1 qn (ne_ro tqn ta0 (by decide))) (P10.1 qp (ne_ro tqp ta0 (by decide))) (fi_put P10 (Or.inr (by decide))))) (cwV 0 hts gX10_measures_X10_act rfl rfl rfl (by decide +kernel) ⟨Nat.le_of_ble_eq_true rfl, Nat.le_of_ble_eq_true rfl⟩) rfl hl.1 rfl (Nat.le_of_ble_eq_true rfl) dX10_measures_68 ⟨Nat.zero_le _, Nat.zero_le _⟩ (fun E41 H42 k43 W41 I41 G41 p41 => ?_)
          obtain ⟨p41_0, p41_1⟩ := p41
          have S41 : Now D TB cy (va_A (va_pl L E) sz) s L τ E41 H42 k43 := ⟨W41, I41⟩
          have F41 : Fr L τ (inW [(11, 0), (60, 0), (61, 0)]) E E41 := F10.trans (G41.mono (inW_mono (by decide)))
          have C45 : ∀ T : Nat → Int32, Link (ai E qn) T → ChW E41 a0 qp T := fun T hT => p41_0 qn hqn tqn qp hqp tqp T (by rw [ai_cell (P10.1 qn (ne_ro tqn ta0 (by decide)))]; exact hT)
          have B46 : ∀ j : Nat, 44 ≤ j → j ≤ 52 → ai E41 qn j = ai E qn j := fun j _ _ => ((ai_fr G41 hqn (by rw [tqn]; rfl)).trans (ai_put P10 (ne_ro tqn ta0 (by decide))))
          refine lv_aload_n hx hb dX10_measures_71 rfl (lv_at hl 0 rfl) ?_
          refine tr_getr Z.1 Z.2.2.2.1 S41.1 S41.2 ha0 ta0 rfl rfl (fun _ h => List.mem_cons_of_mem _ (List.mem_append_right _ h)) 0 (by decide) rfl (hts _ (List.mem_of_getElem? (i := 2) rfl)) dX10_measures_72 (fun q47 eq47 hq47 tq47 => ?_)
          have tq47 : τ q47 = (60, 0) := tq47
          have uq47 : qn = q47 := S41.2.2.2.2 _ hqn _ hq47 (tqn.trans tq47.symm) (by rw [tqn]; rfl)
          subst uq47
          obtain ⟨v48, ev48, tv48⟩ : ∃ v : Int32, Int32.ofInt (0) = v ∧ v.toInt = 0 := ⟨_, rfl, by decide +kernel⟩
          refine lv_iconst hx hb dX10_measures_75 ev48 ?_
          refine lv_iload_n hx hb dX10_measures_76 rfl (lv_at hl 1 rfl) ?_
          have b49 : nowB v48.toNatClampNeg = (-2147483648, 2147483647) := nb_o (by show v48.toInt.toNat < 4 ∨ (8 ≤ v48.toInt.toNat ∧ v48.toInt.toNat ≤ 18) ∨ (20 ≤ v48.toInt.toNat ∧ v48.toInt.toNat ≤ 43); omega)
          have b49 : (nowB v48.toNatClampNeg).1 ≤ a1.toInt ∧ a1.toInt ≤ (nowB v48.toNatClampNeg).2 := by rw [b49]; have := fb_rng a1; show -2147483648 ≤ a1.toInt ∧ a1.toInt ≤ 2147483647; omega
          refine tr_iastx Z.1 Z.2.2.2.1 S41.1 S41.2 hqn tqn rfl (by omega) (by omega) b49.1 b49.2 dX10_measures_77 (fun E49 H50 k51 W49 I49 P49 => ?_)
          have S49 : Now D TB cy (va_A (va_pl L E) sz) s L τ E49 H50 k51 := ⟨W49, I49⟩
          have F49 : Fr L τ (inW [(11, 0), (60, 0), (61, 0)]) E E49 := Fr.set F41 P49 tqn rfl
          refine lv_aload_n hx hb dX10_measures_78 rfl (lv_at hl 0 rfl) ?_
          refine tr_getr Z.1 Z.2.2.2.1 S49.1 S49.2 ha0 ta0 rfl rfl (fun _ h => List.mem_cons_of_mem _ (List.mem_append_right _ h)) 0 (by decide) rfl (hts _ (List.mem_of_getElem? (i := 2) rfl)) dX10_measures_79 (fun q52 eq52 hq52 tq52 => ?_)
          have tq52 : τ q52 = (60, 0) := tq52
          have uq52 : qn = q52 := S49.2.2.2.2 _ hqn _ hq52 (tqn.trans tq52.symm) (by rw [tqn]; rfl)
          subst uq52
          obtain ⟨v53, ev53, tv53⟩ : ∃ v : Int32, Int32.ofInt (1) = v ∧ v.toInt = 1 := ⟨_, rfl, by decide +kernel⟩
          refine lv_iconst hx hb dX10_measures_82 ev53 ?_
          refine lv_iload_n hx hb dX10_measures_83 rfl (lv_at hl 2 rfl) ?_
          have b54 : nowB v53.toNatClampNeg = (-2147483648, 2147483647) := nb_o (by show v53.toInt.toNat < 4 ∨ (8 ≤ v53.toInt.toNat ∧ v53.toInt.toNat ≤ 18) ∨ (20 ≤ v53.toInt.toNat ∧ v53.toInt.toNat ≤ 43); omega)
          have b54 : (nowB v53.toNatClampNeg).1 ≤ a2.toInt ∧ a2.toInt ≤ (nowB v53.toNatClampNeg).2 := by rw [b54]; have := fb_rng a2; show -2147483648 ≤ a2.toInt ∧ a2.toInt ≤ 2147483647; omega
          refine tr_iastx Z.1 Z.2.2.2.1 S49.1 S49.2 hqn tqn rfl (by omega) (by omega) b54.1 b54.2 dX10_measures_84 (fun E54 H55 k56 W54 I54 P54 => ?_)
          have S54 : Now D TB cy (va_A (va_pl L E) sz) s L τ E54 H55 k56 := ⟨W54, I54⟩
          have F54 : Fr L τ (inW [(11, 0), (60, 0), (61, 0)]) E E54 := Fr.set F49 P54 tqn rfl
          refine lv_aload_n hx hb dX10_measures_85 rfl (lv_at hl 0 rfl) ?_
          refine tr_getr Z.1 Z.2.2.2.1 S54.1 S54.2 ha0 ta0 rfl rfl (fun _ h => List.mem_cons_of_mem _ (List.mem_append_right _ h)) 0 (by decide) rfl (hts _ (List.mem_of_getElem? (i := 2) rfl)) dX10_measures_86 (fun q57 eq57 hq57 tq57 => ?_)
          have tq57 : τ q57 = (60, 0) := tq57
          have uq57 : qn = q57 := S54.2.2.2.2 _ hqn _ hq57 (tqn.trans tq57.symm) (by rw [tqn]; rfl)
          subst uq57
          obtain ⟨v58, ev58, tv58⟩ : ∃ v : Int32, Int32.ofInt (2) = v ∧ v.toInt = 2 := ⟨_, rfl, by decide +kernel⟩
          refine lv_iconst hx hb dX10_measures_89 ev58 ?_
          refine lv_iload_n hx hb dX10_measures_90 rfl (lv_at hl 3 rfl) ?_
          have b59 : nowB v58.toNatClampNeg = (-2147483648, 2147483647) := nb_o (by show v58.toInt.toNat < 4 ∨ (8 ≤ v58.toInt.toNat ∧ v58.toInt.toNat ≤ 18) ∨ (20 ≤ v58.toInt.toNat ∧ v58.toInt.toNat ≤ 43); omega)
          have b59 : (nowB v58.toNatClampNeg).1 ≤ a3.toInt ∧ a3.toInt ≤ (nowB v58.toNatClampNeg).2 := by rw [b59]; have := fb_rng a3; show -2147483648 ≤ a3.toInt ∧ a3.toInt ≤ 2147483647; omega
          refine tr_iastx Z.1 Z.2.2.2.1 S54.1 S54.2 hqn tqn rfl (by omega) (by omega) b59.1 b59.2 dX10_measures_91 (fun E59 H60 k61 W59 I59 P59 => ?_)
          have S59 : Now D TB cy (va_A (va_pl L E) sz) s L τ E59 H60 k61 := ⟨W59, I59⟩
          have F59 : Fr L τ (inW [(11, 0), (60, 0), (61, 0)]) E E59 := Fr.set F54 P59 tqn rfl
          refine lv_aload_n hx hb dX10_measures_92 rfl (lv_at hl 0 rfl) ?_
          refine tr_getr Z.1 Z.2.2.2.1 S59.1 S59.2 ha0 ta0 rfl rfl (fun _ h => List.mem_cons_of_mem _ (List.mem_append_right _ h)) 0 (by decide) rfl (hts _ (List.mem_of_getElem? (i := 2) rfl)) dX10_measures_93 (fun q62 eq62 hq62 tq62 => ?_)
          have tq62 : τ q62 = (60, 0) := tq62
          have uq62 : qn = q62 := S59.2.2.2.2 _ hqn _ hq62 (tqn.trans tq62.symm) (by rw [tqn]; rfl)
          subst uq62
          obtain ⟨v63, ev63, tv63⟩ : ∃ v : Int32, Int32.ofInt (3) = v ∧ v.toInt = 3 := ⟨_, rfl, by decide +kernel⟩
          refine lv_iconst hx hb dX10_measures_96 ev63 ?_
          refine lv_iload hx hb dX10_measures_97 (lv_at hl 4 rfl) ?_
          have b64 : nowB v63.toNatClampNeg = (-2147483648, 2147483647) := nb_o (by show v63.toInt.toNat < 4 ∨ (8 ≤ v63.toInt.toNat ∧ v63.toInt.toNat ≤ 18) ∨ (20 ≤ v63.toInt.toNat ∧ v63.toInt.toNat ≤ 43); omega)
          have b64 : (nowB v63.toNatClampNeg).1 ≤ a4.toInt ∧ a4.toInt ≤ (nowB v63.toNatClampNeg).2 := by rw [b64]; have := fb_rng a4; show -2147483648 ≤ a4.toInt ∧ a4.toInt ≤ 2147483647; omega
          refine tr_iastx Z.1 Z.2.2.2.1 S59.1 S59.2 hqn tqn rfl (by omega) (by omega) b64.1 b64.2 dX10_measures_99 (fun E64 H65 k66 W64 I64 P64 => ?_)
          have S64 : Now D TB cy (va_A (va_pl L E) sz) s L τ E64 H65 k66 := ⟨W64, I64⟩
          have F64 : Fr L τ (inW [(11, 0), (60, 0), (61, 0)]) E E64 := Fr.set F59 P64 tqn rfl
          obtain ⟨v67, ev67, tv67⟩ : ∃ v : Int32, Int32.ofInt (1) = v ∧ v.toInt = 1 := ⟨_, rfl, by decide +kernel⟩
          refine lv_iconst hx hb dX10_measures_100 ev67 ?_
          rw [← hQ]
          exact en_z Z S64 F64 (zo v67 (by omega)) ⟨(by omega), (by omega), (by omega), (fun k hk => ((fi_set P64 (ne_ro ta0 tqn (by decide))).trans ((fi_set P59 (ne_ro ta0 tqn (by decide))).trans ((fi_set P54 (ne_ro ta0 tqn (by decide))).trans ((fi_set P49 (ne_ro ta0 tqn (by decide))).trans ((p41_1 k (fw_sub (by decide) hk)).trans ((fi_put P10 (Or.inr (fw_ne (by decide) hk))).trans ((fun k hk => rfl) k hk)))))))), (Chain.post C45 S64.2 ha0 ta0 hqn tqn hqp tqp ((P64.1 qp (ne_ro tqp tqn (by decide))).trans ((P59.1 qp (ne_ro tqp tqn (by decide))).trans ((P54.1 qp (ne_ro tqp tqn (by decide))).trans (P49.1 qp (ne_ro tqp tqn (by decide)))))) ((fi_set P64 (ne_ro ta0 tqn (by decide))).trans ((fi_set P59 (ne_ro ta0 tqn (by decide))).trans ((fi_set P54 (ne_ro ta0 tqn (by decide))).trans (fi_set P49 (ne_ro ta0 tqn (by decide)))))) (Link.ag (fun j h1 h2 => ((ai_setk P64 (by show j ≠ v63.toInt.toNat; omega)).trans ((ai_setk P59 (by show j ≠ v58.toInt.toNat; omega)).trans ((ai_setk P54 (by show j ≠ v53.toInt.toNat; omega)).trans ((ai_setk P49 (by show j ≠ v48.toInt.toNat; omega)).trans (B46 j h1 h2))))))))⟩ dX10_measures_101
        · skip
          have tc40 := nu_eq c40
          have uc40 : (0 : Int32).toInt = 0 := rfl
          exact J61 E10 H37 k38 ls S36 F10 (by have := fb_rng a4; omega) (Chain.same hC S36.2 ha0 ta0 hqn tqn hqp tqp (P10.1 qn (ne_ro tqn ta0 (by decide))) (P10.1 qp (ne_ro tqp ta0 (by decide))) (fi_put P10 (Or.inr (by decide)))) (fun k hk => ((fi_put P10 (Or.inr (fw_ne (by decide) hk))).trans ((fun k hk => rfl) k hk))) (lv_sub hl [0] rfl)

set_option maxRecDepth 20000 in
theorem ggX10_path_X10_in : GoodIn wsX10_path wsX10_in := goodIn_r _ [7] (by decide +kernel) (by decide +kernel)
set_option maxRecDepth 20000 in
theorem gX10_path_X10_in : GoodIn wsX10_path (wsV RX10 123 RX10 yX10_in wsX10_in) := goodIn_app (goodIn_of _ (by decide +kernel)) ggX10_path_X10_in
set_option maxRecDepth 20000 in
theorem ggX10_path_X10_not : GoodIn wsX10_path wsX10_not := goodIn_r _ [11, 12, 13, 24, 25, 26, 27, 28, 29, 30, 31, 32, 33, 34, 35, 36, 37, 38, 39, 40, 41, 42, 43, 44, 45, 46, 47, 48, 49, 50, 51, 52, 53, 54, 55, 56, 57, 58, 59, 60, 61, 62, 63, 64, 65, 66, 67, 68, 69, 70, 71] (by decide +kernel) (by decide +kernel)
set_option maxRecDepth 20000 in
theorem gX10_path_X10_not : GoodIn wsX10_path (wsV RX10 127 RX10 yX10_not wsX10_not) := goodIn_app (goodIn_of _ (by decide +kernel)) ggX10_path_X10_not
set_option maxRecDepth 20000 in
theorem ggX10_path_X10_act : GoodIn wsX10_path wsX10_act := goodIn_r _ [17, 18, 19, 2, 20, 21, 22, 6, 23, 12, 13, 24, 25, 26, 27, 28, 29, 30, 31, 32, 33, 34, 35, 36, 37, 38, 39, 40, 41, 42, 43, 44, 45, 46, 47, 48, 49, 50, 51, 52, 53, 54, 55, 56, 57, 58, 59, 60, 61, 62, 63, 64, 65, 66, 67, 68, 69, 70, 71] (by decide +kernel) (by decide +kernel)
set_option maxRecDepth 20000 in
theorem gX10_path_X10_act : GoodIn wsX10_path (wsV RX10 131 RX10 yX10_act wsX10_act) := goodIn_app (goodIn_of _ (by decide +kernel)) ggX10_path_X10_act
theorem dX10_path_0 : decode cX10_path 0 = .ok (.aload_n 0, 1) := by decide +kernel
theorem dX10_path_1 : decode cX10_path 1 = .ok (.iconst 0, 1) := by decide +kernel
theorem dX10_path_2 : decode cX10_path 2 = .ok (.putfield 97, 3) := by decide +kernel
theorem dX10_path_5 : decode cX10_path 5 = .ok (.aload_n 0, 1) := by decide +kernel
theorem dX10_path_6 : decode cX10_path 6 = .ok (.iload_n 1, 1) := by decide +kernel
theorem dX10_path_7 : decode cX10_path 7 = .ok (.iconst 1, 1) := by decide +kernel
theorem dX10_path_8 : decode cX10_path 8 = .ok (.iconst 3, 1) := by decide +kernel
theorem dX10_path_9 : decode cX10_path 9 = .ok (.invokevirtual 123, 3) := by decide +kernel
theorem dX10_path_12 : decode cX10_path 12 = .ok (.ifCond .ne 9, 3) := by decide +kernel
theorem dX10_path_15 : decode cX10_path 15 = .ok (.aload_n 0, 1) := by decide +kernel
theorem dX10_path_16 : decode cX10_path 16 = .ok (.iconst 1, 1) := by decide +kernel
theorem dX10_path_17 : decode cX10_path 17 = .ok (.invokevirtual 127, 3) := by decide +kernel
theorem dX10_path_20 : decode cX10_path 20 = .ok (.ireturn, 1) := by decide +kernel
theorem dX10_path_21 : decode cX10_path 21 = .ok (.aload_n 0, 1) := by decide +kernel
theorem dX10_path_22 : decode cX10_path 22 = .ok (.invokevirtual 131, 3) := by decide +kernel
theorem dX10_path_25 : decode cX10_path 25 = .ok (.aload_n 0, 1) := by decide +kernel
theorem dX10_path_26 : decode cX10_path 26 = .ok (.getfield 7, 3) := by decide +kernel
theorem dX10_path_29 : decode cX10_path 29 = .ok (.iconst 4, 1) := by decide +kernel
theorem dX10_path_30 : decode cX10_path 30 = .ok (.iload_n 1, 1) := by decide +kernel
theorem dX10_path_31 : decode cX10_path 31 = .ok (.iastore, 1) := by decide +kernel
theorem dX10_path_32 : decode cX10_path 32 = .ok (.iconst 0, 1) := by decide +kernel
theorem dX10_path_33 : decode cX10_path 33 = .ok (.istore_n 2, 1) := by decide +kernel
theorem dX10_path_34 : decode cX10_path 34 = .ok (.iload_n 2, 1) := by decide +kernel
theorem dX10_path_35 : decode cX10_path 35 = .ok (.iconst 3, 1) := by decide +kernel
theorem dX10_path_36 : decode cX10_path 36 = .ok (.if_icmp .ge 48, 3) := by decide +kernel
theorem dX10_path_39 : decode cX10_path 39 = .ok (.aload_n 0, 1) := by decide +kernel
theorem dX10_path_40 : decode cX10_path 40 = .ok (.getfield 7, 3) := by decide +kernel
theorem dX10_path_43 : decode cX10_path 43 = .ok (.iconst 5, 1) := by decide +kernel
theorem dX10_path_44 : decode cX10_path 44 = .ok (.iload_n 2, 1) := by decide +kernel
theorem dX10_path_45 : decode cX10_path 45 = .ok (.iadd, 1) := by decide +kernel
theorem dX10_path_46 : decode cX10_path 46 = .ok (.iload_n 2, 1) := by decide +kernel
theorem dX10_path_47 : decode cX10_path 47 = .ok (.iload_n 1, 1) := by decide +kernel
theorem dX10_path_48 : decode cX10_path 48 = .ok (.if_icmp .ge 7, 3) := by decide +kernel
theorem dX10_path_51 : decode cX10_path 51 = .ok (.iconst 4, 1) := by decide +kernel
theorem dX10_path_52 : decode cX10_path 52 = .ok (.goto 4, 3) := by decide +kernel
theorem dX10_path_55 : decode cX10_path 55 = .ok (.iconst 0, 1) := by decide +kernel
theorem dX10_path_56 : decode cX10_path 56 = .ok (.iastore, 1) := by decide +kernel
theorem dX10_path_57 : decode cX10_path 57 = .ok (.aload_n 0, 1) := by decide +kernel
theorem dX10_path_58 : decode cX10_path 58 = .ok (.getfield 7, 3) := by decide +kernel
theorem dX10_path_61 : decode cX10_path 61 = .ok (.bipush 8, 2) := by decide +kernel
theorem dX10_path_63 : decode cX10_path 63 = .ok (.iload_n 2, 1) := by decide +kernel
theorem dX10_path_64 : decode cX10_path 64 = .ok (.iadd, 1) := by decide +kernel
theorem dX10_path_65 : decode cX10_path 65 = .ok (.iload_n 2, 1) := by decide +kernel
theorem dX10_path_66 : decode cX10_path 66 = .ok (.iload_n 1, 1) := by decide +kernel
theorem dX10_path_67 : decode cX10_path 67 = .ok (.if_icmp .ge 9, 3) := by decide +kernel
theorem dX10_path_70 : decode cX10_path 70 = .ok (.sipush 1000, 3) := by decide +kernel
theorem dX10_path_73 : decode cX10_path 73 = .ok (.goto 4, 3) := by decide +kernel
theorem dX10_path_76 : decode cX10_path 76 = .ok (.iconst 0, 1) := by decide +kernel
theorem dX10_path_77 : decode cX10_path 77 = .ok (.iastore, 1) := by decide +kernel
theorem dX10_path_78 : decode cX10_path 78 = .ok (.iinc 2 1, 3) := by decide +kernel
theorem dX10_path_81 : decode cX10_path 81 = .ok (.goto (-47), 3) := by decide +kernel
theorem dX10_path_84 : decode cX10_path 84 = .ok (.aload_n 0, 1) := by decide +kernel
theorem dX10_path_85 : decode cX10_path 85 = .ok (.getfield 7, 3) := by decide +kernel
theorem dX10_path_88 : decode cX10_path 88 = .ok (.bipush 11, 2) := by decide +kernel
theorem dX10_path_90 : decode cX10_path 90 = .ok (.iconst 0, 1) := by decide +kernel
theorem dX10_path_91 : decode cX10_path 91 = .ok (.iastore, 1) := by decide +kernel
theorem dX10_path_92 : decode cX10_path 92 = .ok (.aload_n 0, 1) := by decide +kernel
theorem dX10_path_93 : decode cX10_path 93 = .ok (.getfield 7, 3) := by decide +kernel
theorem dX10_path_96 : decode cX10_path 96 = .ok (.bipush 12, 2) := by decide +kernel
theorem dX10_path_98 : decode cX10_path 98 = .ok (.iconst 0, 1) := by decide +kernel
theorem dX10_path_99 : decode cX10_path 99 = .ok (.iastore, 1) := by decide +kernel
theorem dX10_path_100 : decode cX10_path 100 = .ok (.iconst 1, 1) := by decide +kernel
theorem dX10_path_101 : decode cX10_path 101 = .ok (.ireturn, 1) := by decide +kernel
set_option maxHeartbeats 4000000 in
set_option maxRecDepth 100000 in
theorem k_X10_path (l : Launch) (D : va_G) (cy : Nat → ClassId) {L : List Nat} {τ : Nat → Ro} {E : Ec} (hI : Inv TB cy L τ E) {a0 : Nat} (ha0 : a0 ∈ L) (ta0 : τ a0 = (11, 0)) (a1 : Int32) (hC : Chain L τ E) : CtI l yX10_path wsX10_path { frames := 2, cells := 0, slots := 0, locals := 41 } D TB cy L τ E [.ref a0, .int a1] (inW [(11, 0), (60, 0), (61, 0)]) (fun r E' => ((r.toInt = 1 ∧ 1 ≤ a1.toInt ∧ a1.toInt ≤ 3) ∨ (r.toInt = 0 ∧ ¬ (1 ≤ a1.toInt ∧ a1.toInt ≤ 3))) ∧ 0 ≤ r.toInt ∧ r.toInt ≤ 1 ∧ (∀ k : Nat, k ∉ ([2, 3, 4, 6] : List Nat) → fi E' a0 k = fi E a0 k) ∧ Chain L τ E') := by
  intro sz
  refine sta (cc := cX10_path) (maxL := 3) hI (by decide) rfl (Nat.le_of_ble_eq_true rfl) (fun p e s m args below meth c ls hsz Z S0 hl => ?_)
  have hx := Z.1.1
  have hb := Z.1.2.1
  have hts := Z.1.2.2.2.2
  have F0_ : Fr L τ (inW [(11, 0), (60, 0), (61, 0)]) E E := Fr.refl
  have hl : lv_has ls 3 [(0, .ref a0), (1, .int a1)] := hl
  generalize hQ : MQ below _ args s 0 0 _ = QQ
  obtain ⟨qn, hqn, tqn⟩ := ref_of (k := 0) hI ha0 ta0 rfl rfl
  have tqn : τ qn = (60, 0) := tqn
  obtain ⟨qp, hqp, tqp⟩ := ref_of (k := 1) hI ha0 ta0 rfl rfl
  have tqp : τ qp = (61, 0) := tqp
  have J34 : ∀ (n : Nat) (x2_34 : Int32) (E_34 : Ec) (H_34 : Heap) (k_34 : List Loc) (l_34 : Array Slot), Now D TB cy (va_A (va_pl L E) sz) s L τ E_34 H_34 k_34 → Fr L τ (inW [(11, 0), (60, 0), (61, 0)]) E E_34 → (1 ≤ a1.toInt) → (a1.toInt ≤ 3) → (0 ≤ x2_34.toInt) → (x2_34.toInt ≤ 3) → (1 ≤ a1.toInt ∧ a1.toInt ≤ 3) → (∀ T : Nat → Int32, Link (ai E qn) T → ChW E_34 a0 qp T) → (∀ j : Nat, 44 ≤ j → j ≤ 52 → ai E_34 qn j = ai E qn j) → (∀ k : Nat, k ∉ ([2, 3, 4, 6] : List Nat) → fi E_34 a0 k = fi E a0 k) → (3 - x2_34.toInt).toNat < n → lv_has l_34 3 [(0, .ref a0), (1, .int a1), (2, .int x2_34)] → W p l e { frames := 2, cells := 0, slots := 0, locals := 41 } s m args below meth c H_34 k_34 0 0 QQ (F0 m 34 l_34 []) := by
    intro n
    induction n with
    | zero => intro x2_34 E_34 H_34 k_34 l_34 S_34 F_34 z1 z2 z3 z4 z5 z6 z7 z8 hm hl_34; exact absurd hm (Nat.not_lt_zero _)
    | succ n ih =>
      intro x2_34 E_34 H_34 k_34 l_34 S_34 F_34 z1 z2 z3 z4 z5 z6 z7 z8 hm hl_34
      have ih_34 := ih
      have J77 : ∀ (y1_77 : Int32) (y2_77 : Int32) (E_77 : Ec) (H_77 : Heap) (k_77 : List Loc) (l_77 : Array Slot), Now D TB cy (va_A (va_pl L E) sz) s L τ E_77 H_77 k_77 → Fr L τ (inW [(11, 0), (60, 0), (61, 0)]) E E_77 → (1 ≤ a1.toInt) → (a1.toInt ≤ 3) → (0 ≤ x2_34.toInt) → (x2_34.toInt ≤ 2) → (8 ≤ y1_77.toInt) → (y1_77.toInt ≤ 10) → (0 ≤ y2_77.toInt) → (y2_77.toInt ≤ 1000) → (1 ≤ a1.toInt ∧ a1.toInt ≤ 3) → (∀ T : Nat → Int32, Link (ai E qn) T → ChW E_77 a0 qp T) → (∀ j : Nat, 44 ≤ j → j ≤ 52 → ai E_77 qn j = ai E qn j) → (∀ k : Nat, k ∉ ([2, 3, 4, 6] : List Nat) → fi E_77 a0 k = fi E a0 k) → lv_has l_77 3 [(0, .ref a0), (1, .int a1), (2, .int x2_34)] → W p l e { frames := 2, cells := 0, slots := 0, locals := 41 } s m args below meth c H_77 k_77 0 0 QQ (F0 m 77 l_77 [.int y2_77, .int y1_77, .ref qn]) := by
        intro y1_77 y2_77 E_77 H_77 k_77 l_77 S_77 F_77 z9 z10 z11 z12 z13 z14 z15 z16 z17 z18 z19 z20 hl_77
        have b21 : nowB y1_77.toNatClampNeg = (-2147483648, 2147483647) := nb_o (by show y1_77.toInt.toNat < 4 ∨ (8 ≤ y1_77.toInt.toNat ∧ y1_77.toInt.toNat ≤ 18) ∨ (20 ≤ y1_77.toInt.toNat ∧ y1_77.toInt.toNat ≤ 43); omega)
        have b21 : (nowB y1_77.toNatClampNeg).1 ≤ y2_77.toInt ∧ y2_77.toInt ≤ (nowB y1_77.toNatClampNeg).2 := by rw [b21]; have := fb_rng y2_77; show -2147483648 ≤ y2_77.toInt ∧ y2_77.toInt ≤ 2147483647; omega
        refine tr_iastx Z.1 Z.2.2.2.1 S_77.1 S_77.2 hqn tqn rfl (by omega) (by omega) b21.1 b21.2 dX10_path_77 (fun E21 H22 k23 W21 I21 P21 => ?_)
        have S21 : Now D TB cy (va_A (va_pl L E) sz) s L τ E21 H22 k23 := ⟨W21, I21⟩
        have F21 : Fr L τ (inW [(11, 0), (60, 0), (61, 0)]) E E21 := Fr.set F_77 P21 tqn rfl
        obtain ⟨v24, ev24⟩ : ∃ y : Int32, x2_34 + Int32.ofInt (1) = y := ⟨_, rfl⟩
        have tv24 : v24.toInt = x2_34.toInt + (1) := by rw [← ev24]; exact (fb_addI (by rw [show (Int32.ofInt (1)).toInt = 1 from by decide +kernel]; omega) (by rw [show (Int32.ofInt (1)).toInt = 1 from by decide +kernel]; omega)).trans (by rw [show (Int32.ofInt (1)).toInt = 1 from by decide +kernel])
        refine lv_iinc (v := v24) (lv' := [(2, .int v24), (0, .ref a0), (1, .int a1)]) hx hb dX10_path_78 hl_77 (k := 2) rfl ev24 (by decide) rfl (fun l25 hl26 => ?_)
        refine lv_goto (tgt := 34) hx hb dX10_path_81 (by decide) ?_
        exact ih_34 v24 E21 H22 k23 l25 S21 F21 (by omega) (by omega) (by omega) (by omega) (by omega) (fun T hT => (z18 T hT).keep (P21.1 qp (ne_ro tqp tqn (by decide))) (fi_set P21 (ne_ro ta0 tqn (by decide)))) (fun j h1 h2 => ((ai_setk P21 (by show j ≠ y1_77.toInt.toNat; omega)).trans (z19 j h1 h2))) (fun k hk => ((fi_set P21 (ne_ro ta0 tqn (by decide))).trans (z20 k hk))) (by omega) (lv_sub hl26 [1, 2, 0] rfl)
      have J56 : ∀ (y1_56 : Int32) (y2_56 : Int32) (E_56 : Ec) (H_56 : Heap) (k_56 : List Loc) (l_56 : Array Slot), Now D TB cy (va_A (va_pl L E) sz) s L τ E_56 H_56 k_56 → Fr L τ (inW [(11, 0), (60, 0), (61, 0)]) E E_56 → (1 ≤ a1.toInt) → (a1.toInt ≤ 3) → (0 ≤ x2_34.toInt) → (x2_34.toInt ≤ 2) → (5 ≤ y1_56.toInt) → (y1_56.toInt ≤ 7) → (0 ≤ y2_56.toInt) → (y2_56.toInt ≤ 4) → (1 ≤ a1.toInt ∧ a1.toInt ≤ 3) → (∀ T : Nat → Int32, Link (ai E qn) T → ChW E_56 a0 qp T) → (∀ j : Nat, 44 ≤ j → j ≤ 52 → ai E_56 qn j = ai E qn j) → (∀ k : Nat, k ∉ ([2, 3, 4, 6] : List Nat) → fi E_56 a0 k = fi E a0 k) → lv_has l_56 3 [(0, .ref a0), (1, .int a1), (2, .int x2_34)] → W p l e { frames := 2, cells := 0, slots := 0, locals := 41 } s m args below meth c H_56 k_56 0 0 QQ (F0 m 56 l_56 [.int y2_56, .int y1_56, .ref qn]) := by
        intro y1_56 y2_56 E_56 H_56 k_56 l_56 S_56 F_56 z27 z28 z29 z30 z31 z32 z33 z34 z35 z36 z37 z38 hl_56
        have b39 : nowB y1_56.toNatClampNeg = (0, 20) := nb_5 (by show 5 ≤ y1_56.toInt.toNat ∧ y1_56.toInt.toNat ≤ 7; omega)
        have b39 : (nowB y1_56.toNatClampNeg).1 ≤ y2_56.toInt ∧ y2_56.toInt ≤ (nowB y1_56.toNatClampNeg).2 := by rw [b39]; have := fb_rng y2_56; show 0 ≤ y2_56.toInt ∧ y2_56.toInt ≤ 20; omega
        refine tr_iastx Z.1 Z.2.2.2.1 S_56.1 S_56.2 hqn tqn rfl (by omega) (by omega) b39.1 b39.2 dX10_path_56 (fun E39 H40 k41 W39 I39 P39 => ?_)
        have S39 : Now D TB cy (va_A (va_pl L E) sz) s L τ E39 H40 k41 := ⟨W39, I39⟩
        have F39 : Fr L τ (inW [(11, 0), (60, 0), (61, 0)]) E E39 := Fr.set F_56 P39 tqn rfl
        refine lv_aload_n hx hb dX10_path_57 rfl (lv_at hl_56 0 rfl) ?_
        refine tr_getr Z.1 Z.2.2.2.1 S39.1 S39.2 ha0 ta0 rfl rfl (fun _ h => List.mem_cons_of_mem _ (List.mem_append_right _ h)) 0 (by decide) rfl (hts _ (List.mem_of_getElem? (i := 2) rfl)) dX10_path_58 (fun q42 eq42 hq42 tq42 => ?_)
        have tq42 : τ q42 = (60, 0) := tq42
        have uq42 : qn = q42 := S39.2.2.2.2 _ hqn _ hq42 (tqn.trans tq42.symm) (by rw [tqn]; rfl)
        subst uq42
        obtain ⟨v43, ev43, tv43⟩ : ∃ v : Int32, (Int8.ofInt (8)).toInt32 = v ∧ v.toInt = 8 := ⟨_, rfl, by decide +kernel⟩
        refine lv_bipush hx hb dX10_path_61 ev43 ?_
        refine lv_iload_n hx hb dX10_path_63 rfl (lv_at hl_56 2 rfl) ?_
        refine lv_iadd hx hb dX10_path_64 ?_
        refine lv_topi (fun v44 ev44 => ?_)
        have tv44 := nu_add ev44 (by omega) (by omega)
        refine lv_iload_n hx hb dX10_path_65 rfl (lv_at hl_56 2 rfl) ?_
        refine lv_iload_n hx hb dX10_path_66 rfl (lv_at hl_56 1 rfl) ?_
        refine lv_icmp_ge (tgt := 76) hx hb dX10_path_67 (by decide) (fun c45 => ?_) (fun c45 => ?_)
        · skip
          have tc45 := nu_le c45
          obtain ⟨v46, ev46, tv46⟩ : ∃ v : Int32, Int32.ofInt (0) = v ∧ v.toInt = 0 := ⟨_, rfl, by decide +kernel⟩
          refine lv_iconst hx hb dX10_path_76 ev46 ?_
          exact J77 v44 v46 E39 H40 k41 l_56 S39 F39 (by omega) (by omega) (by omega) (by omega) (by omega) (by omega) (by omega) (by omega) (by omega) (fun T hT => (z36 T hT).keep (P39.1 qp (ne_ro tqp tqn (by decide))) (fi_set P39 (ne_ro ta0 tqn (by decide)))) (fun j h1 h2 => ((ai_setk P39 (by show j ≠ y1_56.toInt.toNat; omega)).trans (z37 j h1 h2))) (fun k hk => ((fi_set P39 (ne_ro ta0 tqn (by decide))).trans (z38 k hk))) (lv_sub hl_56 [0, 1, 2] rfl)
        · skip
          have tc45 := nu_nle c45
          obtain ⟨v47, ev47, tv47⟩ : ∃ v : Int32, (Int16.ofInt (1000)).toInt32 = v ∧ v.toInt = 1000 := ⟨_, rfl, by decide +kernel⟩
          refine lv_sipush hx hb dX10_path_70 ev47 ?_
          refine lv_goto (tgt := 77) hx hb dX10_path_73 (by decide) ?_
          exact J77 v44 v47 E39 H40 k41 l_56 S39 F39 (by omega) (by omega) (by omega) (by omega) (by omega) (by omega) (by omega) (by omega) (by omega) (fun T hT => (z36 T hT).keep (P39.1 qp (ne_ro tqp tqn (by decide))) (fi_set P39 (ne_ro ta0 tqn (by decide)))) (fun j h1 h2 => ((ai_setk P39 (by show j ≠ y1_56.toInt.toNat; omega)).trans (z37 j h1 h2))) (fun k hk => ((fi_set P39 (ne_ro ta0 tqn (by decide))).trans (z38 k hk))) (lv_sub hl_56 [0, 1, 2] rfl)
      refine lv_iload_n hx hb dX10_path_34 rfl (lv_at hl_34 2 rfl) ?_
      obtain ⟨v48, ev48, tv48⟩ : ∃ v : Int32, Int32.ofInt (3) = v ∧ v.toInt = 3 := ⟨_, rfl, by decide +kernel⟩
      refine lv_iconst hx hb dX10_path_35 ev48 ?_
      refine lv_icmp_ge (tgt := 84) hx hb dX10_path_36 (by decide) (fun c49 => ?_) (fun c49 => ?_)
      · skip
        have tc49 := nu_le c49
        refine lv_aload_n hx hb dX10_path_84 rfl (lv_at hl_34 0 rfl) ?_
        refine tr_getr Z.1 Z.2.2.2.1 S_34.1 S_34.2 ha0 ta0 rfl rfl (fun _ h => List.mem_cons_of_mem _ (List.mem_append_right _ h)) 0 (by decide) rfl (hts _ (List.mem_of_getElem? (i := 2) rfl)) dX10_path_85 (fun q50 eq50 hq50 tq50 => ?_)
        have tq50 : τ q50 = (60, 0) := tq50
        have uq50 : qn = q50 := S_34.2.2.2.2 _ hqn _ hq50 (tqn.trans tq50.symm) (by rw [tqn]; rfl)
        subst uq50
        obtain ⟨v51, ev51, tv51⟩ : ∃ v : Int32, (Int8.ofInt (11)).toInt32 = v ∧ v.toInt = 11 := ⟨_, rfl, by decide +kernel⟩
        refine lv_bipush hx hb dX10_path_88 ev51 ?_
        obtain ⟨v52, ev52, tv52⟩ : ∃ v : Int32, Int32.ofInt (0) = v ∧ v.toInt = 0 := ⟨_, rfl, by decide +kernel⟩
        refine lv_iconst hx hb dX10_path_90 ev52 ?_
        have b53 : nowB v51.toNatClampNeg = (-2147483648, 2147483647) := nb_o (by show v51.toInt.toNat < 4 ∨ (8 ≤ v51.toInt.toNat ∧ v51.toInt.toNat ≤ 18) ∨ (20 ≤ v51.toInt.toNat ∧ v51.toInt.toNat ≤ 43); omega)
        have b53 : (nowB v51.toNatClampNeg).1 ≤ v52.toInt ∧ v52.toInt ≤ (nowB v51.toNatClampNeg).2 := by rw [b53]; have := fb_rng v52; show -2147483648 ≤ v52.toInt ∧ v52.toInt ≤ 2147483647; omega
        refine tr_iastx Z.1 Z.2.2.2.1 S_34.1 S_34.2 hqn tqn rfl (by omega) (by omega) b53.1 b53.2 dX10_path_91 (fun E53 H54 k55 W53 I53 P53 => ?_)
        have S53 : Now D TB cy (va_A (va_pl L E) sz) s L τ E53 H54 k55 := ⟨W53, I53⟩
        have F53 : Fr L τ (inW [(11, 0), (60, 0), (61, 0)]) E E53 := Fr.set F_34 P53 tqn rfl
        refine lv_aload_n hx hb dX10_path_92 rfl (lv_at hl_34 0 rfl) ?_
        refine tr_getr Z.1 Z.2.2.2.1 S53.1 S53.2 ha0 ta0 rfl rfl (fun _ h => List.mem_cons_of_mem _ (List.mem_append_right _ h)) 0 (by decide) rfl (hts _ (List.mem_of_getElem? (i := 2) rfl)) dX10_path_93 (fun q56 eq56 hq56 tq56 => ?_)
        have tq56 : τ q56 = (60, 0) := tq56
        have uq56 : qn = q56 := S53.2.2.2.2 _ hqn _ hq56 (tqn.trans tq56.symm) (by rw [tqn]; rfl)
        subst uq56
        obtain ⟨v57, ev57, tv57⟩ : ∃ v : Int32, (Int8.ofInt (12)).toInt32 = v ∧ v.toInt = 12 := ⟨_, rfl, by decide +kernel⟩
        refine lv_bipush hx hb dX10_path_96 ev57 ?_
        obtain ⟨v58, ev58, tv58⟩ : ∃ v : Int32, Int32.ofInt (0) = v ∧ v.toInt = 0 := ⟨_, rfl, by decide +kernel⟩
        refine lv_iconst hx hb dX10_path_98 ev58 ?_
        have b59 : nowB v57.toNatClampNeg = (-2147483648, 2147483647) := nb_o (by show v57.toInt.toNat < 4 ∨ (8 ≤ v57.toInt.toNat ∧ v57.toInt.toNat ≤ 18) ∨ (20 ≤ v57.toInt.toNat ∧ v57.toInt.toNat ≤ 43); omega)
        have b59 : (nowB v57.toNatClampNeg).1 ≤ v58.toInt ∧ v58.toInt ≤ (nowB v57.toNatClampNeg).2 := by rw [b59]; have := fb_rng v58; show -2147483648 ≤ v58.toInt ∧ v58.toInt ≤ 2147483647; omega
        refine tr_iastx Z.1 Z.2.2.2.1 S53.1 S53.2 hqn tqn rfl (by omega) (by omega) b59.1 b59.2 dX10_path_99 (fun E59 H60 k61 W59 I59 P59 => ?_)
        have S59 : Now D TB cy (va_A (va_pl L E) sz) s L τ E59 H60 k61 := ⟨W59, I59⟩
        have F59 : Fr L τ (inW [(11, 0), (60, 0), (61, 0)]) E E59 := Fr.set F53 P59 tqn rfl
        obtain ⟨v62, ev62, tv62⟩ : ∃ v : Int32, Int32.ofInt (1) = v ∧ v.toInt = 1 := ⟨_, rfl, by decide +kernel⟩
        refine lv_iconst hx hb dX10_path_100 ev62 ?_
        rw [← hQ]
        exact en_z Z S59 F59 (zo v62 (by omega)) ⟨(by omega), (by omega), (by omega), (fun k hk => ((fi_set P59 (ne_ro ta0 tqn (by decide))).trans ((fi_set P53 (ne_ro ta0 tqn (by decide))).trans (z8 k hk)))), (Chain.post z6 S59.2 ha0 ta0 hqn tqn hqp tqp ((P59.1 qp (ne_ro tqp tqn (by decide))).trans (P53.1 qp (ne_ro tqp tqn (by decide)))) ((fi_set P59 (ne_ro ta0 tqn (by decide))).trans (fi_set P53 (ne_ro ta0 tqn (by decide)))) (Link.ag (fun j h1 h2 => ((ai_setk P59 (by show j ≠ v57.toInt.toNat; omega)).trans ((ai_setk P53 (by show j ≠ v51.toInt.toNat; omega)).trans (z7 j h1 h2))))))⟩ dX10_path_101
      · skip
        have tc49 := nu_nle c49
        refine lv_aload_n hx hb dX10_path_39 rfl (lv_at hl_34 0 rfl) ?_
        refine tr_getr Z.1 Z.2.2.2.1 S_34.1 S_34.2 ha0 ta0 rfl rfl (fun _ h => List.mem_cons_of_mem _ (List.mem_append_right _ h)) 0 (by decide) rfl (hts _ (List.mem_of_getElem? (i := 2) rfl)) dX10_path_40 (fun q63 eq63 hq63 tq63 => ?_)
        have tq63 : τ q63 = (60, 0) := tq63
        have uq63 : qn = q63 := S_34.2.2.2.2 _ hqn _ hq63 (tqn.trans tq63.symm) (by rw [tqn]; rfl)
        subst uq63
        obtain ⟨v64, ev64, tv64⟩ : ∃ v : Int32, Int32.ofInt (5) = v ∧ v.toInt = 5 := ⟨_, rfl, by decide +kernel⟩
        refine lv_iconst hx hb dX10_path_43 ev64 ?_
        refine lv_iload_n hx hb dX10_path_44 rfl (lv_at hl_34 2 rfl) ?_
        refine lv_iadd hx hb dX10_path_45 ?_
        refine lv_topi (fun v65 ev65 => ?_)
        have tv65 := nu_add ev65 (by omega) (by omega)
        refine lv_iload_n hx hb dX10_path_46 rfl (lv_at hl_34 2 rfl) ?_
        refine lv_iload_n hx hb dX10_path_47 rfl (lv_at hl_34 1 rfl) ?_
        refine lv_icmp_ge (tgt := 55) hx hb dX10_path_48 (by decide) (fun c66 => ?_) (fun c66 => ?_)
        · skip
          have tc66 := nu_le c66
          obtain ⟨v67, ev67, tv67⟩ : ∃ v : Int32, Int32.ofInt (0) = v ∧ v.toInt = 0 := ⟨_, rfl, by decide +kernel⟩
          refine lv_iconst hx hb dX10_path_55 ev67 ?_
          exact J56 v65 v67 E_34 H_34 k_34 l_34 S_34 F_34 (by omega) (by omega) (by omega) (by omega) (by omega) (by omega) (by omega) (by omega) (by omega) z6 (fun j h1 h2 => (z7 j h1 h2)) (fun k hk => (z8 k hk)) (lv_sub hl_34 [0, 1, 2] rfl)
        · skip
          have tc66 := nu_nle c66
          obtain ⟨v68, ev68, tv68⟩ : ∃ v : Int32, Int32.ofInt (4) = v ∧ v.toInt = 4 := ⟨_, rfl, by decide +kernel⟩
          refine lv_iconst hx hb dX10_path_51 ev68 ?_
          refine lv_goto (tgt := 56) hx hb dX10_path_52 (by decide) ?_
          exact J56 v65 v68 E_34 H_34 k_34 l_34 S_34 F_34 (by omega) (by omega) (by omega) (by omega) (by omega) (by omega) (by omega) (by omega) (by omega) z6 (fun j h1 h2 => (z7 j h1 h2)) (fun k hk => (z8 k hk)) (lv_sub hl_34 [0, 1, 2] rfl)
  refine lv_aload_n hx hb dX10_path_0 rfl (lv_at hl 0 rfl) ?_
  obtain ⟨v69, ev69, tv69⟩ : ∃ v : Int32, Int32.ofInt (0) = v ∧ v.toInt = 0 := ⟨_, rfl, by decide +kernel⟩
  refine lv_iconst hx hb dX10_path_1 ev69 ?_
  refine tr_puti Z.1 Z.2.2.2.1 S0.1 S0.2 ha0 ta0 rfl rfl (fun _ h => List.mem_cons_of_mem _ (List.mem_append_right _ h)) tyX10_ok nmX10 4 (by decide) rfl rfl rfl (hts _ (List.mem_of_getElem? (i := 1) rfl)) dX10_path_2 (by omega) (by omega) (fun E70 H71 k72 W70 I70 P70 => ?_)
  have S70 : Now D TB cy (va_A (va_pl L E) sz) s L τ E70 H71 k72 := ⟨W70, I70⟩
  have F70 : Fr L τ (inW [(11, 0), (60, 0), (61, 0)]) E E70 := Fr.put F0_ P70 ta0 rfl
  refine lv_aload_n hx hb dX10_path_5 rfl (lv_at hl 0 rfl) ?_
  refine lv_iload_n hx hb dX10_path_6 rfl (lv_at hl 1 rfl) ?_
  obtain ⟨v73, ev73, tv73⟩ : ∃ v : Int32, Int32.ofInt (1) = v ∧ v.toInt = 1 := ⟨_, rfl, by decide +kernel⟩
  refine lv_iconst hx hb dX10_path_7 ev73 ?_
  obtain ⟨v74, ev74, tv74⟩ : ∃ v : Int32, Int32.ofInt (3) = v ∧ v.toInt = 3 := ⟨_, rfl, by decide +kernel⟩
  refine lv_iconst hx hb dX10_path_8 ev74 ?_
  refine tc_vi Z.1 Z.2.2.2.1 Z.2.2.2.2.1 Z.2.2.2.2.2 S70.1 S70.2 ha0 ta0 rfl rfl (k_X10_in l D cy S70.2 ha0 ta0 a1 v73 v74) (cwV 3 hts gX10_path_X10_in rfl rfl rfl (by decide +kernel) ⟨Nat.le_of_ble_eq_true rfl, Nat.le_of_ble_eq_true rfl⟩) rfl hl.1 rfl (Nat.le_of_ble_eq_true rfl) dX10_path_9 ⟨Nat.zero_le _, Nat.zero_le _⟩ (fun v78 E75 H76 k77 W75 I75 G75 p75 => ?_)
  obtain ⟨q75, p75_0, p75_1, p75_2⟩ := p75
  have q75 := q75.symm
  subst q75
  have S75 : Now D TB cy (va_A (va_pl L E) sz) s L τ E70 H76 k77 := ⟨W75, I75⟩
  refine lv_if_ne (tgt := 21) hx hb dX10_path_12 (by decide) (fun c79 => ?_) (fun c79 => ?_)
  · skip
    have tc79 := nu_ne c79
    have uc79 : (0 : Int32).toInt = 0 := rfl
    refine lv_aload_n hx hb dX10_path_21 rfl (lv_at hl 0 rfl) ?_
    refine tc_vv Z.1 Z.2.2.2.1 Z.2.2.2.2.1 Z.2.2.2.2.2 S75.1 S75.2 ha0 ta0 rfl rfl (k_X10_act l D cy S75.2 ha0 ta0 (Chain.same hC S75.2 ha0 ta0 hqn tqn hqp tqp (P70.1 qn (ne_ro tqn ta0 (by decide))) (P70.1 qp (ne_ro tqp ta0 (by decide))) (fi_put P70 (Or.inr (by decide))))) (cwV 0 hts gX10_path_X10_act rfl rfl rfl (by decide +kernel) ⟨Nat.le_of_ble_eq_true rfl, Nat.le_of_ble_eq_true rfl⟩) rfl hl.1 rfl (Nat.le_of_ble_eq_true rfl) dX10_path_22 ⟨Nat.zero_le _, Nat.zero_le _⟩ (fun E80 H81 k82 W80 I80 G80 p80 => ?_)
    obtain ⟨p80_0, p80_1⟩ := p80
    have S80 : Now D TB cy (va_A (va_pl L E) sz) s L τ E80 H81 k82 := ⟨W80, I80⟩
    have F80 : Fr L τ (inW [(11, 0), (60, 0), (61, 0)]) E E80 := F70.trans (G80.mono (inW_mono (by decide)))
    have C84 : ∀ T : Nat → Int32, Link (ai E qn) T → ChW E80 a0 qp T := fun T hT => p80_0 qn hqn tqn qp hqp tqp T (by rw [ai_cell (P70.1 qn (ne_ro tqn ta0 (by decide)))]; exact hT)
    have B85 : ∀ j : Nat, 44 ≤ j → j ≤ 52 → ai E80 qn j = ai E qn j := fun j _ _ => ((ai_fr G80 hqn (by rw [tqn]; rfl)).trans (ai_put P70 (ne_ro tqn ta0 (by decide))))
    refine lv_aload_n hx hb dX10_path_25 rfl (lv_at hl 0 rfl) ?_
    refine tr_getr Z.1 Z.2.2.2.1 S80.1 S80.2 ha0 ta0 rfl rfl (fun _ h => List.mem_cons_of_mem _ (List.mem_append_right _ h)) 0 (by decide) rfl (hts _ (List.mem_of_getElem? (i := 2) rfl)) dX10_path_26 (fun q86 eq86 hq86 tq86 => ?_)
    have tq86 : τ q86 = (60, 0) := tq86
    have uq86 : qn = q86 := S80.2.2.2.2 _ hqn _ hq86 (tqn.trans tq86.symm) (by rw [tqn]; rfl)
    subst uq86
    obtain ⟨v87, ev87, tv87⟩ : ∃ v : Int32, Int32.ofInt (4) = v ∧ v.toInt = 4 := ⟨_, rfl, by decide +kernel⟩
    refine lv_iconst hx hb dX10_path_29 ev87 ?_
    refine lv_iload_n hx hb dX10_path_30 rfl (lv_at hl 1 rfl) ?_
    have b88 : nowB v87.toNatClampNeg = (0, 3) := nb_4 (by show v87.toInt.toNat = 4; omega)
    have b88 : (nowB v87.toNatClampNeg).1 ≤ a1.toInt ∧ a1.toInt ≤ (nowB v87.toNatClampNeg).2 := by rw [b88]; have := fb_rng a1; show 0 ≤ a1.toInt ∧ a1.toInt ≤ 3; omega
    refine tr_iastx Z.1 Z.2.2.2.1 S80.1 S80.2 hqn tqn rfl (by omega) (by omega) b88.1 b88.2 dX10_path_31 (fun E88 H89 k90 W88 I88 P88 => ?_)
    have S88 : Now D TB cy (va_A (va_pl L E) sz) s L τ E88 H89 k90 := ⟨W88, I88⟩
    have F88 : Fr L τ (inW [(11, 0), (60, 0), (61, 0)]) E E88 := Fr.set F80 P88 tqn rfl
    obtain ⟨v91, ev91, tv91⟩ : ∃ v : Int32, Int32.ofInt (0) = v ∧ v.toInt = 0 := ⟨_, rfl, by decide +kernel⟩
    refine lv_iconst hx hb dX10_path_32 ev91 ?_
    refine lv_istore_n (lv' := [(2, .int v91), (0, .ref a0), (1, .int a1)]) hx hb dX10_path_33 rfl hl (by decide) rfl (fun l92 hl93 => ?_)
    exact J34 _ v91 E88 H89 k90 l92 S88 F88 (by omega) (by omega) (by omega) (by omega) (by omega) (fun T hT => (C84 T hT).keep (P88.1 qp (ne_ro tqp tqn (by decide))) (fi_set P88 (ne_ro ta0 tqn (by decide)))) (fun j h1 h2 => ((ai_setk P88 (by show j ≠ v87.toInt.toNat; omega)).trans (B85 j h1 h2))) (fun k hk => ((fi_set P88 (ne_ro ta0 tqn (by decide))).trans ((p80_1 k (fw_sub (by decide) hk)).trans ((fi_put P70 (Or.inr (fw_ne (by decide) hk))).trans ((fun k hk => rfl) k hk))))) (Nat.lt_succ_self _) (lv_sub hl93 [1, 2, 0] rfl)
  · skip
    have tc79 := nu_eq c79
    have uc79 : (0 : Int32).toInt = 0 := rfl
    refine lv_aload_n hx hb dX10_path_15 rfl (lv_at hl 0 rfl) ?_
    obtain ⟨v94, ev94, tv94⟩ : ∃ v : Int32, Int32.ofInt (1) = v ∧ v.toInt = 1 := ⟨_, rfl, by decide +kernel⟩
    refine lv_iconst hx hb dX10_path_16 ev94 ?_
    refine tc_vi Z.1 Z.2.2.2.1 Z.2.2.2.2.1 Z.2.2.2.2.2 S75.1 S75.2 ha0 ta0 rfl rfl (k_X10_not l D cy S75.2 ha0 ta0 v94) (cwV 1 hts gX10_path_X10_not rfl rfl rfl (by decide +kernel) ⟨Nat.le_of_ble_eq_true rfl, Nat.le_of_ble_eq_true rfl⟩) rfl hl.1 rfl (Nat.le_of_ble_eq_true rfl) dX10_path_17 ⟨Nat.zero_le _, Nat.zero_le _⟩ (fun v98 E95 H96 k97 W95 I95 G95 p95 => ?_)
    obtain ⟨p95_0, p95_1, p95_2⟩ := p95
    have S95 : Now D TB cy (va_A (va_pl L E) sz) s L τ E95 H96 k97 := ⟨W95, I95⟩
    have F95 : Fr L τ (inW [(11, 0), (60, 0), (61, 0)]) E E95 := F70.trans (G95.mono (inW_mono (by decide)))
    rw [← hQ]
    exact en_z Z S95 F95 (zo v98 (by omega)) ⟨(by omega), (by omega), (by omega), (fun k hk => ((p95_2 k (fw_sub (by decide) hk)).trans ((fi_put P70 (Or.inr (fw_ne (by decide) hk))).trans ((fun k hk => rfl) k hk)))), (Chain.same hC S95.2 ha0 ta0 hqn tqn hqp tqp ((G95 qn hqn (by rw [tqn]; rfl)).trans (P70.1 qn (ne_ro tqn ta0 (by decide)))) ((G95 qp hqp (by rw [tqp]; rfl)).trans (P70.1 qp (ne_ro tqp ta0 (by decide)))) ((p95_2 2 (by decide)).trans (fi_put P70 (Or.inr (by decide)))))⟩ dX10_path_20

set_option maxRecDepth 20000 in
theorem ggX10_repeal_X10_not : GoodIn wsX10_repeal wsX10_not := goodIn_r _ [7, 8, 9, 20, 21, 22, 23, 24, 25, 26, 27, 28, 29, 30, 31, 32, 33, 34, 35, 36, 37, 38, 39, 40, 41, 42, 43, 44, 45, 46, 47, 48, 49, 50, 51, 52, 53, 54, 55, 56, 57, 58, 59, 60, 61, 62, 63, 64, 65, 66, 67] (by decide +kernel) (by decide +kernel)
set_option maxRecDepth 20000 in
theorem gX10_repeal_X10_not : GoodIn wsX10_repeal (wsV RX10 127 RX10 yX10_not wsX10_not) := goodIn_app (goodIn_of _ (by decide +kernel)) ggX10_repeal_X10_not
set_option maxRecDepth 20000 in
theorem ggX10_repeal_X10_act : GoodIn wsX10_repeal wsX10_act := goodIn_r _ [13, 14, 15, 2, 16, 17, 18, 6, 19, 8, 9, 20, 21, 22, 23, 24, 25, 26, 27, 28, 29, 30, 31, 32, 33, 34, 35, 36, 37, 38, 39, 40, 41, 42, 43, 44, 45, 46, 47, 48, 49, 50, 51, 52, 53, 54, 55, 56, 57, 58, 59, 60, 61, 62, 63, 64, 65, 66, 67] (by decide +kernel) (by decide +kernel)
set_option maxRecDepth 20000 in
theorem gX10_repeal_X10_act : GoodIn wsX10_repeal (wsV RX10 131 RX10 yX10_act wsX10_act) := goodIn_app (goodIn_of _ (by decide +kernel)) ggX10_repeal_X10_act
theorem dX10_repeal_0 : decode cX10_repeal 0 = .ok (.aload_n 0, 1) := by decide +kernel
theorem dX10_repeal_1 : decode cX10_repeal 1 = .ok (.iconst 0, 1) := by decide +kernel
theorem dX10_repeal_2 : decode cX10_repeal 2 = .ok (.putfield 97, 3) := by decide +kernel
theorem dX10_repeal_5 : decode cX10_repeal 5 = .ok (.aload_n 0, 1) := by decide +kernel
theorem dX10_repeal_6 : decode cX10_repeal 6 = .ok (.getfield 7, 3) := by decide +kernel
theorem dX10_repeal_9 : decode cX10_repeal 9 = .ok (.bipush 44, 2) := by decide +kernel
theorem dX10_repeal_11 : decode cX10_repeal 11 = .ok (.iaload, 1) := by decide +kernel
theorem dX10_repeal_12 : decode cX10_repeal 12 = .ok (.ifCond .ne 9, 3) := by decide +kernel
theorem dX10_repeal_15 : decode cX10_repeal 15 = .ok (.aload_n 0, 1) := by decide +kernel
theorem dX10_repeal_16 : decode cX10_repeal 16 = .ok (.iconst 4, 1) := by decide +kernel
theorem dX10_repeal_17 : decode cX10_repeal 17 = .ok (.invokevirtual 127, 3) := by decide +kernel
theorem dX10_repeal_20 : decode cX10_repeal 20 = .ok (.ireturn, 1) := by decide +kernel
theorem dX10_repeal_21 : decode cX10_repeal 21 = .ok (.aload_n 0, 1) := by decide +kernel
theorem dX10_repeal_22 : decode cX10_repeal 22 = .ok (.invokevirtual 131, 3) := by decide +kernel
theorem dX10_repeal_25 : decode cX10_repeal 25 = .ok (.aload_n 0, 1) := by decide +kernel
theorem dX10_repeal_26 : decode cX10_repeal 26 = .ok (.getfield 7, 3) := by decide +kernel
theorem dX10_repeal_29 : decode cX10_repeal 29 = .ok (.bipush 44, 2) := by decide +kernel
theorem dX10_repeal_31 : decode cX10_repeal 31 = .ok (.dup2, 1) := by decide +kernel
theorem dX10_repeal_32 : decode cX10_repeal 32 = .ok (.iaload, 1) := by decide +kernel
theorem dX10_repeal_33 : decode cX10_repeal 33 = .ok (.iconst 1, 1) := by decide +kernel
theorem dX10_repeal_34 : decode cX10_repeal 34 = .ok (.isub, 1) := by decide +kernel
theorem dX10_repeal_35 : decode cX10_repeal 35 = .ok (.iastore, 1) := by decide +kernel
theorem dX10_repeal_36 : decode cX10_repeal 36 = .ok (.iconst 1, 1) := by decide +kernel
theorem dX10_repeal_37 : decode cX10_repeal 37 = .ok (.ireturn, 1) := by decide +kernel
set_option maxHeartbeats 4000000 in
set_option maxRecDepth 100000 in
theorem k_X10_repeal (l : Launch) (D : va_G) (cy : Nat → ClassId) {L : List Nat} {τ : Nat → Ro} {E : Ec} (hI : Inv TB cy L τ E) {a0 : Nat} (ha0 : a0 ∈ L) (ta0 : τ a0 = (11, 0)) (hC : Chain L τ E) : CtI l yX10_repeal wsX10_repeal { frames := 2, cells := 0, slots := 0, locals := 41 } D TB cy L τ E [.ref a0] (inW [(11, 0), (60, 0), (61, 0)]) (fun r E' => 0 ≤ r.toInt ∧ r.toInt ≤ 1 ∧ (∀ k : Nat, k ∉ ([2, 3, 4, 6] : List Nat) → fi E' a0 k = fi E a0 k) ∧ Chain L τ E') := by
  intro sz
  refine sta (cc := cX10_repeal) (maxL := 1) hI (by decide) rfl (Nat.le_of_ble_eq_true rfl) (fun p e s m args below meth c ls hsz Z S0 hl => ?_)
  have hx := Z.1.1
  have hb := Z.1.2.1
  have hts := Z.1.2.2.2.2
  have F0_ : Fr L τ (inW [(11, 0), (60, 0), (61, 0)]) E E := Fr.refl
  have hl : lv_has ls 1 [(0, .ref a0)] := hl
  generalize hQ : MQ below _ args s 0 0 _ = QQ
  obtain ⟨qn, hqn, tqn⟩ := ref_of (k := 0) hI ha0 ta0 rfl rfl
  have tqn : τ qn = (60, 0) := tqn
  obtain ⟨qp, hqp, tqp⟩ := ref_of (k := 1) hI ha0 ta0 rfl rfl
  have tqp : τ qp = (61, 0) := tqp
  refine lv_aload_n hx hb dX10_repeal_0 rfl (lv_at hl 0 rfl) ?_
  obtain ⟨v1, ev1, tv1⟩ : ∃ v : Int32, Int32.ofInt (0) = v ∧ v.toInt = 0 := ⟨_, rfl, by decide +kernel⟩
  refine lv_iconst hx hb dX10_repeal_1 ev1 ?_
  refine tr_puti Z.1 Z.2.2.2.1 S0.1 S0.2 ha0 ta0 rfl rfl (fun _ h => List.mem_cons_of_mem _ (List.mem_append_right _ h)) tyX10_ok nmX10 4 (by decide) rfl rfl rfl (hts _ (List.mem_of_getElem? (i := 1) rfl)) dX10_repeal_2 (by omega) (by omega) (fun E2 H3 k4 W2 I2 P2 => ?_)
  have S2 : Now D TB cy (va_A (va_pl L E) sz) s L τ E2 H3 k4 := ⟨W2, I2⟩
  have F2 : Fr L τ (inW [(11, 0), (60, 0), (61, 0)]) E E2 := Fr.put F0_ P2 ta0 rfl
  refine lv_aload_n hx hb dX10_repeal_5 rfl (lv_at hl 0 rfl) ?_
  refine tr_getr Z.1 Z.2.2.2.1 S2.1 S2.2 ha0 ta0 rfl rfl (fun _ h => List.mem_cons_of_mem _ (List.mem_append_right _ h)) 0 (by decide) rfl (hts _ (List.mem_of_getElem? (i := 2) rfl)) dX10_repeal_6 (fun q5 eq5 hq5 tq5 => ?_)
  have tq5 : τ q5 = (60, 0) := tq5
  have uq5 : qn = q5 := S2.2.2.2.2 _ hqn _ hq5 (tqn.trans tq5.symm) (by rw [tqn]; rfl)
  subst uq5
  obtain ⟨v6, ev6, tv6⟩ : ∃ v : Int32, (Int8.ofInt (44)).toInt32 = v ∧ v.toInt = 44 := ⟨_, rfl, by decide +kernel⟩
  refine lv_bipush hx hb dX10_repeal_9 ev6 ?_
  refine tr_ialdx Z.1 Z.2.2.2.1 S2.1 S2.2 hqn tqn rfl (by omega) (by omega) dX10_repeal_11 (fun v7 ev7 lv7 uv7 => ?_)
  have bv7 : nowB v6.toNatClampNeg = (0, 8) := nb_44 (by show v6.toInt.toNat = 44; omega)
  rw [bv7] at lv7 uv7
  have lv7 : 0 ≤ v7.toInt := lv7
  have uv7 : v7.toInt ≤ 8 := uv7
  have av7 : ai E2 qn 44 = v7 := ai_at ev7 (by omega)
  refine lv_if_ne (tgt := 21) hx hb dX10_repeal_12 (by decide) (fun c8 => ?_) (fun c8 => ?_)
  · skip
    have tc8 := nu_ne c8
    have uc8 : (0 : Int32).toInt = 0 := rfl
    refine lv_aload_n hx hb dX10_repeal_21 rfl (lv_at hl 0 rfl) ?_
    refine tc_vv Z.1 Z.2.2.2.1 Z.2.2.2.2.1 Z.2.2.2.2.2 S2.1 S2.2 ha0 ta0 rfl rfl (k_X10_act l D cy S2.2 ha0 ta0 (Chain.same hC S2.2 ha0 ta0 hqn tqn hqp tqp (P2.1 qn (ne_ro tqn ta0 (by decide))) (P2.1 qp (ne_ro tqp ta0 (by decide))) (fi_put P2 (Or.inr (by decide))))) (cwV 0 hts gX10_repeal_X10_act rfl rfl rfl (by decide +kernel) ⟨Nat.le_of_ble_eq_true rfl, Nat.le_of_ble_eq_true rfl⟩) rfl hl.1 rfl (Nat.le_of_ble_eq_true rfl) dX10_repeal_22 ⟨Nat.zero_le _, Nat.zero_le _⟩ (fun E9 H10 k11 W9 I9 G9 p9 => ?_)
    obtain ⟨p9_0, p9_1⟩ := p9
    have S9 : Now D TB cy (va_A (va_pl L E) sz) s L τ E9 H10 k11 := ⟨W9, I9⟩
    have F9 : Fr L τ (inW [(11, 0), (60, 0), (61, 0)]) E E9 := F2.trans (G9.mono (inW_mono (by decide)))
    have C13 : ∀ T : Nat → Int32, Link (ai E qn) T → ChW E9 a0 qp T := fun T hT => p9_0 qn hqn tqn qp hqp tqp T (by rw [ai_cell (P2.1 qn (ne_ro tqn ta0 (by decide)))]; exact hT)
    have B14 : ∀ j : Nat, 44 ≤ j → j ≤ 52 → ai E9 qn j = ai E qn j := fun j _ _ => ((ai_fr G9 hqn (by rw [tqn]; rfl)).trans (ai_put P2 (ne_ro tqn ta0 (by decide))))
    refine lv_aload_n hx hb dX10_repeal_25 rfl (lv_at hl 0 rfl) ?_
    refine tr_getr Z.1 Z.2.2.2.1 S9.1 S9.2 ha0 ta0 rfl rfl (fun _ h => List.mem_cons_of_mem _ (List.mem_append_right _ h)) 0 (by decide) rfl (hts _ (List.mem_of_getElem? (i := 2) rfl)) dX10_repeal_26 (fun q15 eq15 hq15 tq15 => ?_)
    have tq15 : τ q15 = (60, 0) := tq15
    have uq15 : qn = q15 := S9.2.2.2.2 _ hqn _ hq15 (tqn.trans tq15.symm) (by rw [tqn]; rfl)
    subst uq15
    obtain ⟨v16, ev16, tv16⟩ : ∃ v : Int32, (Int8.ofInt (44)).toInt32 = v ∧ v.toInt = 44 := ⟨_, rfl, by decide +kernel⟩
    refine lv_bipush hx hb dX10_repeal_29 ev16 ?_
    refine lv_dup2_11 hx hb dX10_repeal_31 rfl rfl ?_
    refine tr_ialdx Z.1 Z.2.2.2.1 S9.1 S9.2 hqn tqn rfl (by omega) (by omega) dX10_repeal_32 (fun v17 ev17 lv17 uv17 => ?_)
    have bv17 : nowB v16.toNatClampNeg = (0, 8) := nb_44 (by show v16.toInt.toNat = 44; omega)
    rw [bv17] at lv17 uv17
    have lv17 : 0 ≤ v17.toInt := lv17
    have uv17 : v17.toInt ≤ 8 := uv17
    have av17 : ai E9 qn 44 = v17 := ai_at ev17 (by omega)
    have wv17 : v17 = v7 := av17.symm.trans ((ai_fr G9 hqn (by rw [tqn]; rfl)).trans av7)
    have xv17 : v17.toInt = v7.toInt := by rw [wv17]
    obtain ⟨v18, ev18, tv18⟩ : ∃ v : Int32, Int32.ofInt (1) = v ∧ v.toInt = 1 := ⟨_, rfl, by decide +kernel⟩
    refine lv_iconst hx hb dX10_repeal_33 ev18 ?_
    refine lv_isub hx hb dX10_repeal_34 ?_
    refine lv_topi (fun v19 ev19 => ?_)
    have tv19 := nu_sub ev19 (by omega) (by omega)
    have b20 : nowB v16.toNatClampNeg = (0, 8) := nb_44 (by show v16.toInt.toNat = 44; omega)
    have b20 : (nowB v16.toNatClampNeg).1 ≤ v19.toInt ∧ v19.toInt ≤ (nowB v16.toNatClampNeg).2 := by rw [b20]; have := fb_rng v19; show 0 ≤ v19.toInt ∧ v19.toInt ≤ 8; omega
    refine tr_iastx Z.1 Z.2.2.2.1 S9.1 S9.2 hqn tqn rfl (by omega) (by omega) b20.1 b20.2 dX10_repeal_35 (fun E20 H21 k22 W20 I20 P20 => ?_)
    have S20 : Now D TB cy (va_A (va_pl L E) sz) s L τ E20 H21 k22 := ⟨W20, I20⟩
    have F20 : Fr L τ (inW [(11, 0), (60, 0), (61, 0)]) E E20 := Fr.set F9 P20 tqn rfl
    obtain ⟨v23, ev23, tv23⟩ : ∃ v : Int32, Int32.ofInt (1) = v ∧ v.toInt = 1 := ⟨_, rfl, by decide +kernel⟩
    refine lv_iconst hx hb dX10_repeal_36 ev23 ?_
    rw [← hQ]
    exact en_z Z S20 F20 (zo v23 (by omega)) ⟨(by omega), (by omega), (fun k hk => ((fi_set P20 (ne_ro ta0 tqn (by decide))).trans ((p9_1 k (fw_sub (by decide) hk)).trans ((fi_put P2 (Or.inr (fw_ne (by decide) hk))).trans ((fun k hk => rfl) k hk))))), (Chain.post C13 S20.2 ha0 ta0 hqn tqn hqp tqp (P20.1 qp (ne_ro tqp tqn (by decide))) (fi_set P20 (ne_ro ta0 tqn (by decide))) (Link.rep (by rw [(ai_at P20.2.1 (by omega)), ← B14 44 (by omega) (by omega), av17]; omega) (fun j h1 h2 => ((ai_setk P20 (by show j ≠ v16.toInt.toNat; omega)).trans (B14 j (by omega) h2)))))⟩ dX10_repeal_37
  · skip
    have tc8 := nu_eq c8
    have uc8 : (0 : Int32).toInt = 0 := rfl
    refine lv_aload_n hx hb dX10_repeal_15 rfl (lv_at hl 0 rfl) ?_
    obtain ⟨v24, ev24, tv24⟩ : ∃ v : Int32, Int32.ofInt (4) = v ∧ v.toInt = 4 := ⟨_, rfl, by decide +kernel⟩
    refine lv_iconst hx hb dX10_repeal_16 ev24 ?_
    refine tc_vi Z.1 Z.2.2.2.1 Z.2.2.2.2.1 Z.2.2.2.2.2 S2.1 S2.2 ha0 ta0 rfl rfl (k_X10_not l D cy S2.2 ha0 ta0 v24) (cwV 1 hts gX10_repeal_X10_not rfl rfl rfl (by decide +kernel) ⟨Nat.le_of_ble_eq_true rfl, Nat.le_of_ble_eq_true rfl⟩) rfl hl.1 rfl (Nat.le_of_ble_eq_true rfl) dX10_repeal_17 ⟨Nat.zero_le _, Nat.zero_le _⟩ (fun v28 E25 H26 k27 W25 I25 G25 p25 => ?_)
    obtain ⟨p25_0, p25_1, p25_2⟩ := p25
    have S25 : Now D TB cy (va_A (va_pl L E) sz) s L τ E25 H26 k27 := ⟨W25, I25⟩
    have F25 : Fr L τ (inW [(11, 0), (60, 0), (61, 0)]) E E25 := F2.trans (G25.mono (inW_mono (by decide)))
    rw [← hQ]
    exact en_z Z S25 F25 (zo v28 (by omega)) ⟨(by omega), (by omega), (fun k hk => ((p25_2 k (fw_sub (by decide) hk)).trans ((fi_put P2 (Or.inr (fw_ne (by decide) hk))).trans ((fun k hk => rfl) k hk)))), (Chain.same hC S25.2 ha0 ta0 hqn tqn hqp tqp ((G25 qn hqn (by rw [tqn]; rfl)).trans (P2.1 qn (ne_ro tqn ta0 (by decide)))) ((G25 qp hqp (by rw [tqp]; rfl)).trans (P2.1 qp (ne_ro tqp ta0 (by decide)))) ((p25_2 2 (by decide)).trans (fi_put P2 (Or.inr (by decide)))))⟩ dX10_repeal_20

