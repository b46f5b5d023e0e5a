set_option maxHeartbeats 4000000 in
set_option maxRecDepth 100000 in
theorem k_X5_readSum_vr (l : Launch) (D : va_G) (cy : Nat → ClassId) {L : List Nat} {τ : Nat → Ro} {E : Ec} (hI : Inv TB cy L τ E) {G : Sg} {a0 : Nat} (ha0 : a0 ∈ L) (ta0 : τ a0 = (7, 0)) (a1 : Int32) {qe : Nat} (hqe : qe ∈ L) (tqe : τ qe = (33, 0)) {qs : Nat} (hqs : qs ∈ L) (tqs : τ qs = (36, 0)) {qt : Nat} (hqt : qt ∈ L) (tqt : τ qt = (32, 0)) (h4 : (fi E a0 4).toInt = 0) (h9 : (fi E a0 9).toInt ≤ 56) (hR : RdW E a0 qe qs) : CtV1 G l yX5_readSum wsX5_readSum { frames := 8, cells := 0, slots := 0, locals := 177 } D TB cy L τ E [.ref a0, .int a1] (inW [(7, 0), (34, 0), (35, 0), (36, 0)]) (fun E' => (Did (fi E' a0 4).toInt (fi E' a0 5).toInt (fi E' a0 3).toInt (sumI (tx E qt a0 2) (fi E a0 2).toInt.toNat (fi E a0 3).toInt.toNat)) ∧ ((fi E' a0 4).toInt = 0 → (fi E' a0 9).toInt ≤ (fi E a0 9).toInt + 8) ∧ (∀ k : Nat, k ∉ ([3, 4, 5, 7, 9] : List Nat) → fi E' a0 k = fi E a0 k) ∧ RdW E' a0 qe qs) := by
  intro sz
  refine sta1 (cc := cX5_readSum) (maxL := 6) hI (by decide) rfl (Nat.le_of_ble_eq_true rfl) (fun p e s m args below meth c ls hsz Z SZ S0 hl => ?_)
  have hx := Z.1.1
  have hb := Z.1.2.1
  have hts := Z.1.2.2.2.2
  have F0_ : Fr L τ (inW [(7, 0), (34, 0), (35, 0), (36, 0)]) E E := Fr.refl
  have hl : lv_has ls 6 [(0, .ref a0), (1, .int a1)] := hl
  generalize hQ : MQ below _ args s 0 0 _ = QQ
  have kz_a0_9 := fi_rng (k := 9) hI ha0 ta0 rfl rfl
  have kz_a0_4 := fi_rng (k := 4) hI ha0 ta0 rfl rfl
  have kz_a0_5 := fi_rng (k := 5) hI ha0 ta0 rfl rfl
  have kz_a0_3 := fi_rng (k := 3) hI ha0 ta0 rfl rfl
  have kz_a0_2 := fi_rng (k := 2) hI ha0 ta0 rfl rfl
  have hTr : ∀ p : Nat, -128 ≤ (tx E qt a0 2) p ∧ (tx E qt a0 2) p ≤ 127 := tx_rng hI hqt tqt rfl (by omega)
  have J7 : ∀ (n : Nat) (x2_7 : Int32) (x3_7 : Int32) (x4_7 : Int32) (E_7 : Ec) (H_7 : Heap) (k_7 : List Loc) (l_7 : Array Slot), Now D TB cy (va_A (va_pl L E) sz) s L τ E_7 H_7 k_7 → Fr L τ (inW [(7, 0), (34, 0), (35, 0), (36, 0)]) E E_7 → (0 ≤ x3_7.toInt) → (x3_7.toInt ≤ 1) → (0 ≤ x4_7.toInt) → (x4_7.toInt ≤ 9) → ((x3_7.toInt = 1 ∧ (fi E_7 a0 4).toInt = 0 ∧ x4_7.toInt ≤ 8 ∧ (fi E_7 a0 9).toInt = (fi E a0 9).toInt + x4_7.toInt ∧ sumF (tx E qt a0 2) (fi E a0 2).toInt.toNat (9 - x4_7.toInt.toNat) x4_7.toInt.toNat (fi E_7 a0 3).toInt.toNat = (sumI (tx E qt a0 2) (fi E a0 2).toInt.toNat (fi E a0 3).toInt.toNat)) ∨ (x3_7.toInt = 0 ∧ Did (fi E_7 a0 4).toInt (fi E_7 a0 5).toInt (fi E_7 a0 3).toInt (sumI (tx E qt a0 2) (fi E a0 2).toInt.toNat (fi E a0 3).toInt.toNat) ∧ ((fi E_7 a0 4).toInt = 0 → (fi E_7 a0 9).toInt ≤ (fi E a0 9).toInt + 8))) → (RdW E_7 a0 qe qs) → (∀ k : Nat, k ∉ ([3, 4, 5, 7, 9] : List Nat) → fi E_7 a0 k = fi E a0 k) → (0 ≤ (fi E_7 a0 3).toInt ∧ (fi E_7 a0 3).toInt ≤ 120) → (0 ≤ (fi E_7 a0 2).toInt ∧ (fi E_7 a0 2).toInt ≤ 120 ∧ (fi E_7 a0 2).toInt = (fi E a0 2).toInt) → (9 - x4_7.toInt).toNat < n → lv_has l_7 6 [(0, .ref a0), (1, .int a1), (2, .int x2_7), (3, .int x3_7), (4, .int x4_7)] → W p l e { frames := 8, cells := 0, slots := 0, locals := 177 } s m args below meth c H_7 k_7 0 0 QQ (F0 m 7 l_7 []) := by
    intro n
    induction n with
    | zero => intro x2_7 x3_7 x4_7 E_7 H_7 k_7 l_7 S_7 F_7 z1 z2 z3 z4 z5 z6 z7 z8 z9 hm hl_7; exact absurd hm (Nat.not_lt_zero _)
    | succ n ih =>
      intro x2_7 x3_7 x4_7 E_7 H_7 k_7 l_7 S_7 F_7 z1 z2 z3 z4 z5 z6 z7 z8 z9 hm hl_7
      have ih_7 := ih
      refine lv_iload hx hb dX5_readSum_7 (lv_at hl_7 4 rfl) ?_
      obtain ⟨v10, ev10, tv10⟩ : ∃ v : Int32, (Int8.ofInt (8)).toInt32 = v ∧ v.toInt = 8 := ⟨_, rfl, by decide +kernel⟩
      refine lv_bipush hx hb dX5_readSum_9 ev10 ?_
      refine lv_icmp_gt (tgt := 96) hx hb dX5_readSum_11 (by decide) (fun c11 => ?_) (fun c11 => ?_)
      · skip
        have tc11 := nu_lt c11
        rw [← hQ]
        exact en_v Z S_7 F_7 ⟨(by rcases z5 with q | q; omega; exact q.2.1), (by rcases z5 with q | q; omega; exact q.2.2), (fun k hk => (z7 k hk)), z6⟩ dX5_readSum_96
      · skip
        have tc11 := nu_nlt c11
        refine lv_iload_n hx hb dX5_readSum_14 rfl (lv_at hl_7 3 rfl) ?_
        refine lv_if_eq (tgt := 96) hx hb dX5_readSum_15 (by decide) (fun c12 => ?_) (fun c12 => ?_)
        · skip
          have tc12 := nu_eq c12
          have uc12 : (0 : Int32).toInt = 0 := rfl
          rw [← hQ]
          exact en_v Z S_7 F_7 ⟨(by rcases z5 with q | q; omega; exact q.2.1), (by rcases z5 with q | q; omega; exact q.2.2), (fun k hk => (z7 k hk)), z6⟩ dX5_readSum_96
        · skip
          have tc12 := nu_ne c12
          have uc12 : (0 : Int32).toInt = 0 := rfl
          have a7 : (fi E_7 a0 4).toInt = 0 ∧ x4_7.toInt ≤ 8 ∧ (fi E_7 a0 9).toInt = (fi E a0 9).toInt + x4_7.toInt ∧ sumF (tx E qt a0 2) (fi E a0 2).toInt.toNat (9 - x4_7.toInt.toNat) x4_7.toInt.toNat (fi E_7 a0 3).toInt.toNat = (sumI (tx E qt a0 2) (fi E a0 2).toInt.toNat (fi E a0 3).toInt.toNat) := by rcases z5 with q | q; exact q.2; omega
          have a7e : 9 - x4_7.toInt.toNat = (8 - x4_7.toInt.toNat) + 1 := by omega
          have a7s := a7.2.2.2
          rw [a7e] at a7s
          have pz7 : (fi E_7 a0 3).toInt = (((fi E_7 a0 3).toInt.toNat : Nat) : Int) := by omega
          refine lv_aload_n hx hb dX5_readSum_18 rfl (lv_at hl_7 0 rfl) ?_
          refine lv_iload_n hx hb dX5_readSum_19 rfl (lv_at hl_7 2 rfl) ?_
          refine lv_iload hx hb dX5_readSum_20 (lv_at hl_7 4 rfl) ?_
          have fe_22a : fi E_7 a0 2 = fi E a0 2 := (z7 2 (by decide))
          have tq_22a : tx E_7 qt a0 2 = (tx E qt a0 2) := tx_same (F_7 qt hqt (by rw [tqt]; rfl)) fe_22a
          have po_22a : (fi E_7 a0 3).toInt = (((fi E_7 a0 3).toInt.toNat : Nat) : Int) := pz7
          refine tc1_vv Z.1 Z.2.2.2.1 Z.2.2.2.2.1 Z.2.2.2.2.2 SZ S_7.1 S_7.2 ha0 ta0 rfl rfl (k_X5_readPart_vr l D cy S_7.2 ha0 ta0 x2_7 x4_7 (by omega) (by omega) hqe tqe hqs tqs hqt tqt a7.1 (by omega) z6) (cwV 2 hts gX5_readSum_X5_readPart rfl rfl rfl (by decide +kernel) ⟨Nat.le_of_ble_eq_true rfl, Nat.le_of_ble_eq_true rfl⟩) rfl hl_7.1 rfl (Nat.le_of_ble_eq_true rfl) dX5_readSum_22 ⟨Nat.zero_le _, Nat.zero_le _⟩ (fun E13 H14 k15 W13 I13 G13 p13 => ?_)
          obtain ⟨p13_0, p13_1, p13_2, p13_3⟩ := p13
          have S13 : Now D TB cy (va_A (va_pl L E) sz) s L τ E13 H14 k15 := ⟨W13, I13⟩
          have F13 : Fr L τ (inW [(7, 0), (34, 0), (35, 0), (36, 0)]) E E13 := F_7.trans (G13.mono (inW_mono (by decide)))
          have dp_22 : Did (fi E13 a0 4).toInt (fi E13 a0 5).toInt (fi E13 a0 3).toInt (partI (tx E qt a0 2) (fi E a0 2).toInt.toNat x4_7.toInt.toNat (skI (tx E qt a0 2) (fi E a0 2).toInt.toNat (fi E_7 a0 3).toInt.toNat)) := by have q := p13_0; rw [tq_22a, fe_22a] at q; exact q
          have pt_22 := p13_1
          have kp_22 := fi_rng (k := 3) S13.2 ha0 ta0 rfl rfl
          have kp_22f := fi_rng (k := 4) S13.2 ha0 ta0 rfl rfl
          have pz22 : (fi E13 a0 3).toInt = (((fi E13 a0 3).toInt.toNat : Nat) : Int) := by omega
          refine lv_aload_n hx hb dX5_readSum_25 rfl (lv_at hl_7 0 rfl) ?_
          have fe_26a : fi E13 a0 2 = fi E a0 2 := ((p13_2 2 (by decide)).trans (z7 2 (by decide)))
          have tq_26a : tx E13 qt a0 2 = (tx E qt a0 2) := tx_same (F13 qt hqt (by rw [tqt]; rfl)) fe_26a
          have po_26a : (fi E13 a0 3).toInt = (((fi E13 a0 3).toInt.toNat : Nat) : Int) := pz22
          refine tc_vv Z.1 Z.2.2.2.1 Z.2.2.2.2.1 Z.2.2.2.2.2 S13.1 S13.2 ha0 ta0 rfl rfl (k_X5_skipBlanks_vr l D cy S13.2 ha0 ta0 hqt tqt) (cwV 0 hts gX5_readSum_X5_skipBlanks rfl rfl rfl (by decide +kernel) ⟨Nat.le_of_ble_eq_true rfl, Nat.le_of_ble_eq_true rfl⟩) rfl hl_7.1 rfl (Nat.le_of_ble_eq_true rfl) dX5_readSum_26 ⟨Nat.zero_le _, Nat.zero_le _⟩ (fun E17 H18 k19 W17 I17 G17 p17 => ?_)
          obtain ⟨p17_0, p17_1⟩ := p17
          have S17 : Now D TB cy (va_A (va_pl L E) sz) s L τ E17 H18 k19 := ⟨W17, I17⟩
          have F17 : Fr L τ (inW [(7, 0), (34, 0), (35, 0), (36, 0)]) E E17 := F13.trans (G17.mono (inW_mono (by decide)))
          have po_26 : (fi E17 a0 3).toInt = (((skI (tx E qt a0 2) (fi E a0 2).toInt.toNat (fi E13 a0 3).toInt.toNat) : Nat) : Int) := by have q := p17_0; rw [tq_26a, fe_26a] at q; exact q
          have kp_26 := fi_rng (k := 3) S17.2 ha0 ta0 rfl rfl
          refine lv_aload_n hx hb dX5_readSum_29 rfl (lv_at hl_7 0 rfl) ?_
          have fe_30a : fi E17 a0 2 = fi E a0 2 := (((p17_1 2 (by decide)).trans (p13_2 2 (by decide))).trans (z7 2 (by decide)))
          have tq_30a : tx E17 qt a0 2 = (tx E qt a0 2) := tx_same (F17 qt hqt (by rw [tqt]; rfl)) fe_30a
          have po_30a : (fi E17 a0 3).toInt = (((skI (tx E qt a0 2) (fi E a0 2).toInt.toNat (fi E13 a0 3).toInt.toNat) : Nat) : Int) := po_26
          refine tc_vi Z.1 Z.2.2.2.1 Z.2.2.2.2.1 Z.2.2.2.2.2 S17.1 S17.2 ha0 ta0 rfl rfl (k_X5_peek_vr l D cy S17.2 ha0 ta0 hqt tqt) (cwV 0 hts gX5_readSum_X5_peek rfl rfl rfl (by decide +kernel) ⟨Nat.le_of_ble_eq_true rfl, Nat.le_of_ble_eq_true rfl⟩) rfl hl_7.1 rfl (Nat.le_of_ble_eq_true rfl) dX5_readSum_30 ⟨Nat.zero_le _, Nat.zero_le _⟩ (fun v24 E21 H22 k23 W21 I21 G21 p21 => ?_)
          obtain ⟨q21, p21_0, p21_1, p21_2, p21_3⟩ := p21
          have q21 := q21.symm
          subst q21
          have S21 : Now D TB cy (va_A (va_pl L E) sz) s L τ E17 H22 k23 := ⟨W21, I21⟩
          have pk_30 : v24.toInt = pkI (tx E qt a0 2) (fi E a0 2).toInt.toNat (skI (tx E qt a0 2) (fi E a0 2).toInt.toNat (fi E13 a0 3).toInt.toNat) := by have q := p21_1; rw [tq_30a, fe_30a, show (fi E17 a0 3).toInt.toNat = (skI (tx E qt a0 2) (fi E a0 2).toInt.toNat (fi E13 a0 3).toInt.toNat) from by omega] at q; exact q
          refine lv_istore (lv' := [(5, .int v24), (0, .ref a0), (1, .int a1), (2, .int x2_7), (3, .int x3_7), (4, .int x4_7)]) hx hb dX5_readSum_33 hl_7 (by decide) rfl (fun l25 hl26 => ?_)
          refine lv_aload_n hx hb dX5_readSum_35 rfl (lv_at hl26 1 rfl) ?_
          refine tr_geti Z.1 Z.2.2.2.1 S21.1 S21.2 ha0 ta0 rfl rfl (fun _ h => List.mem_cons_of_mem _ (List.mem_append_right _ h)) 4 (by decide) rfl (hts _ (List.mem_of_getElem? (i := 1) rfl)) dX5_readSum_36 (fun v27 ev27 lv27 uv27 => ?_)
          have wv27 : v27 = (fi E13 a0 4) := ev27.symm.trans ((p17_1 4 (by decide)).trans rfl)
          have xv27 : v27.toInt = (fi E13 a0 4).toInt := by rw [wv27]
          refine lv_if_ne (tgt := 60) hx hb dX5_readSum_39 (by decide) (fun c28 => ?_) (fun c28 => ?_)
          · skip
            have tc28 := nu_ne c28
            have uc28 : (0 : Int32).toInt = 0 := rfl
            have r1_39 : (partI (tx E qt a0 2) (fi E a0 2).toInt.toNat x4_7.toInt.toNat (skI (tx E qt a0 2) (fi E a0 2).toInt.toNat (fi E_7 a0 3).toInt.toNat)).1 ≠ 0 := fun z => absurd (dp_22.1.trans z) (by omega)
            obtain ⟨v29, ev29, tv29⟩ : ∃ v : Int32, Int32.ofInt (0) = v ∧ v.toInt = 0 := ⟨_, rfl, by decide +kernel⟩
            refine lv_iconst hx hb dX5_readSum_60 ev29 ?_
            refine lv_istore_n (lv' := [(3, .int v29), (5, .int v24), (0, .ref a0), (1, .int a1), (2, .int x2_7), (4, .int x4_7)]) hx hb dX5_readSum_61 rfl hl26 (by decide) rfl (fun l30 hl31 => ?_)
            refine lv_iload_n hx hb dX5_readSum_62 rfl (lv_at hl31 0 rfl) ?_
            refine lv_if_eq (tgt := 90) hx hb dX5_readSum_63 (by decide) (fun c32 => ?_) (fun c32 => ?_)
            · skip
              have tc32 := nu_eq c32
              have uc32 : (0 : Int32).toInt = 0 := rfl
              obtain ⟨v33, ev33⟩ : ∃ y : Int32, x4_7 + Int32.ofInt (1) = y := ⟨_, rfl⟩
              have tv33 : v33.toInt = x4_7.toInt + (1) := by rw [← ev33]; exact (fb_addI (by rw [show (Int32.ofInt (1)).toInt = 1 from by decide +kernel]; omega) (by rw [show (Int32.ofInt (1)).toInt = 1 from by decide +kernel]; omega)).trans (by rw [show (Int32.ofInt (1)).toInt = 1 from by decide +kernel])
              refine lv_iinc (v := v33) (lv' := [(4, .int v33), (3, .int v29), (5, .int v24), (0, .ref a0), (1, .int a1), (2, .int x2_7)]) hx hb dX5_readSum_90 hl31 (k := 5) rfl ev33 (by decide) rfl (fun l34 hl35 => ?_)
              refine lv_goto (tgt := 7) hx hb dX5_readSum_93 (by decide) ?_
              exact ih_7 x2_7 v29 v33 E17 H22 k23 l34 S21 F17 (by have := fb_rng a1; have := fb_rng x2_7; omega) (by have := fb_rng a1; have := fb_rng x2_7; omega) (by have := fb_rng a1; have := fb_rng x2_7; omega) (by have := fb_rng a1; have := fb_rng x2_7; omega) (Or.inr ⟨by omega, by rw [← a7s, sum_bad r1_39]; exact Did.mv (by rw [(p17_1 4 (by decide)), (p17_1 5 (by decide))]; exact dp_22) (by rw [(p17_1 4 (by decide))]; omega), fun z => absurd z (by rw [(p17_1 4 (by decide))]; omega)⟩) (RdW.same p13_3 (G17 qe hqe (by rw [tqe]; rfl)) (G17 qs hqs (by rw [tqs]; rfl)) (p17_1 7 (by decide)) (p17_1 8 (by decide)) (p17_1 9 (by decide))) (fun k hk => ((p17_1 k (fw_sub (by decide) hk)).trans ((p13_2 k (fw_sub (by decide) hk)).trans (z7 k hk)))) (by have := fb_rng a1; have := fb_rng x2_7; omega) (by rw [((p17_1 2 (by decide)).trans ((p13_2 2 (by decide)).trans rfl))]; have := fb_rng a1; have := fb_rng x2_7; omega) (by omega) (lv_sub hl35 [3, 4, 5, 1, 0] rfl)
            · skip
              have tc32 := nu_ne c32
              have uc32 : (0 : Int32).toInt = 0 := rfl
              omega
          · skip
            have tc28 := nu_eq c28
            have uc28 : (0 : Int32).toInt = 0 := rfl
            have r0_39 : (partI (tx E qt a0 2) (fi E a0 2).toInt.toNat x4_7.toInt.toNat (skI (tx E qt a0 2) (fi E a0 2).toInt.toNat (fi E_7 a0 3).toInt.toNat)).1 = 0 := dp_22.1.symm.trans (by omega)
            have po_42 : (fi E13 a0 3).toInt = (((partI (tx E qt a0 2) (fi E a0 2).toInt.toNat x4_7.toInt.toNat (skI (tx E qt a0 2) (fi E a0 2).toInt.toNat (fi E_7 a0 3).toInt.toNat)).2.2 : Nat) : Int) := dp_22.2.2 r0_39
            have pe_42 : (fi E13 a0 3).toInt.toNat = (partI (tx E qt a0 2) (fi E a0 2).toInt.toNat x4_7.toInt.toNat (skI (tx E qt a0 2) (fi E a0 2).toInt.toNat (fi E_7 a0 3).toInt.toNat)).2.2 := by omega
            have pk2_30 : v24.toInt = pkI (tx E qt a0 2) (fi E a0 2).toInt.toNat (skI (tx E qt a0 2) (fi E a0 2).toInt.toNat (partI (tx E qt a0 2) (fi E a0 2).toInt.toNat x4_7.toInt.toNat (skI (tx E qt a0 2) (fi E a0 2).toInt.toNat (fi E_7 a0 3).toInt.toNat)).2.2) := by have q := pk_30; rw [pe_42] at q; exact q
            have po2_26 : (fi E17 a0 3).toInt = ((skI (tx E qt a0 2) (fi E a0 2).toInt.toNat (partI (tx E qt a0 2) (fi E a0 2).toInt.toNat x4_7.toInt.toNat (skI (tx E qt a0 2) (fi E a0 2).toInt.toNat (fi E_7 a0 3).toInt.toNat)).2.2 : Nat) : Int) := by have q := po_26; rw [pe_42] at q; exact q
            refine lv_iload hx hb dX5_readSum_42 (lv_at hl26 0 rfl) ?_
            obtain ⟨v36, ev36, tv36⟩ : ∃ v : Int32, (Int8.ofInt (43)).toInt32 = v ∧ v.toInt = 43 := ⟨_, rfl, by decide +kernel⟩
            refine lv_bipush hx hb dX5_readSum_44 ev36 ?_
            refine lv_icmp_eq (tgt := 56) hx hb dX5_readSum_46 (by decide) (fun c37 => ?_) (fun c37 => ?_)
            · skip
              have tc37 := nu_eq c37
              obtain ⟨v38, ev38, tv38⟩ : ∃ v : Int32, Int32.ofInt (1) = v ∧ v.toInt = 1 := ⟨_, rfl, by decide +kernel⟩
              refine lv_iconst hx hb dX5_readSum_56 ev38 ?_
              refine lv_goto (tgt := 61) hx hb dX5_readSum_57 (by decide) ?_
              refine lv_istore_n (lv' := [(3, .int v38), (5, .int v24), (0, .ref a0), (1, .int a1), (2, .int x2_7), (4, .int x4_7)]) hx hb dX5_readSum_61 rfl hl26 (by decide) rfl (fun l39 hl40 => ?_)
              refine lv_iload_n hx hb dX5_readSum_62 rfl (lv_at hl40 0 rfl) ?_
              refine lv_if_eq (tgt := 90) hx hb dX5_readSum_63 (by decide) (fun c41 => ?_) (fun c41 => ?_)
              · skip
                have tc41 := nu_eq c41
                have uc41 : (0 : Int32).toInt = 0 := rfl
                omega
              · skip
                have tc41 := nu_ne c41
                have uc41 : (0 : Int32).toInt = 0 := rfl
                refine lv_iload hx hb dX5_readSum_66 (lv_at hl40 1 rfl) ?_
                obtain ⟨v42, ev42, tv42⟩ : ∃ v : Int32, (Int8.ofInt (43)).toInt32 = v ∧ v.toInt = 43 := ⟨_, rfl, by decide +kernel⟩
                refine lv_bipush hx hb dX5_readSum_68 ev42 ?_
                refine lv_icmp_ne (tgt := 77) hx hb dX5_readSum_70 (by decide) (fun c43 => ?_) (fun c43 => ?_)
                · skip
                  have tc43 := nu_ne c43
                  omega
                · skip
                  have tc43 := nu_eq c43
                  refine lv_iload_n hx hb dX5_readSum_73 rfl (lv_at hl40 3 rfl) ?_
                  refine lv_goto (tgt := 79) hx hb dX5_readSum_74 (by decide) ?_
                  refine lv_istore_n (lv' := [(2, .int a1), (3, .int v38), (5, .int v24), (0, .ref a0), (1, .int a1), (4, .int x4_7)]) hx hb dX5_readSum_79 rfl hl40 (by decide) rfl (fun l44 hl45 => ?_)
                  refine lv_aload_n hx hb dX5_readSum_80 rfl (lv_at hl45 3 rfl) ?_
                  refine lv_dup hx hb dX5_readSum_81 rfl ?_
                  refine tr_geti Z.1 Z.2.2.2.1 S21.1 S21.2 ha0 ta0 rfl rfl (fun _ h => List.mem_cons_of_mem _ (List.mem_append_right _ h)) 3 (by decide) rfl (hts _ (List.mem_of_getElem? (i := 2) rfl)) dX5_readSum_82 (fun v46 ev46 lv46 uv46 => ?_)
                  have wv46 : v46 = (fi E17 a0 3) := ev46.symm.trans rfl
                  have xv46 : v46.toInt = (fi E17 a0 3).toInt := by rw [wv46]
                  obtain ⟨v47, ev47, tv47⟩ : ∃ v : Int32, Int32.ofInt (1) = v ∧ v.toInt = 1 := ⟨_, rfl, by decide +kernel⟩
                  refine lv_iconst hx hb dX5_readSum_85 ev47 ?_
                  refine lv_iadd hx hb dX5_readSum_86 ?_
                  refine lv_topi (fun v48 ev48 => ?_)
                  have tv48 := nu_add ev48 (by omega) (by omega)
                  refine tr_puti Z.1 Z.2.2.2.1 S21.1 S21.2 ha0 ta0 rfl rfl (fun _ h => List.mem_cons_of_mem _ (List.mem_append_right _ h)) tyX5_ok nmX5 3 (by decide) rfl rfl rfl (hts _ (List.mem_of_getElem? (i := 2) rfl)) dX5_readSum_87 (by omega) (by omega) (fun E49 H50 k51 W49 I49 P49 => ?_)
                  have S49 : Now D TB cy (va_A (va_pl L E) sz) s L τ E49 H50 k51 := ⟨W49, I49⟩
                  have F49 : Fr L τ (inW [(7, 0), (34, 0), (35, 0), (36, 0)]) E E49 := Fr.put F17 P49 ta0 rfl
                  have po_87 : (fi E49 a0 3).toInt = ((((skI (tx E qt a0 2) (fi E a0 2).toInt.toNat (partI (tx E qt a0 2) (fi E a0 2).toInt.toNat x4_7.toInt.toNat (skI (tx E qt a0 2) (fi E a0 2).toInt.toNat (fi E_7 a0 3).toInt.toNat)).2.2) + 1) : Nat) : Int) := by have q : (fi E17 a0 3).toInt = (((skI (tx E qt a0 2) (fi E a0 2).toInt.toNat (partI (tx E qt a0 2) (fi E a0 2).toInt.toNat x4_7.toInt.toNat (skI (tx E qt a0 2) (fi E a0 2).toInt.toNat (fi E_7 a0 3).toInt.toNat)).2.2) : Nat) : Int) := po2_26; rw [(fi_at P49)]; omega
                  obtain ⟨v52, ev52⟩ : ∃ y : Int32, x4_7 + Int32.ofInt (1) = y := ⟨_, rfl⟩
                  have tv52 : v52.toInt = x4_7.toInt + (1) := by rw [← ev52]; exact (fb_addI (by rw [show (Int32.ofInt (1)).toInt = 1 from by decide +kernel]; omega) (by rw [show (Int32.ofInt (1)).toInt = 1 from by decide +kernel]; omega)).trans (by rw [show (Int32.ofInt (1)).toInt = 1 from by decide +kernel])
                  refine lv_iinc (v := v52) (lv' := [(4, .int v52), (2, .int a1), (3, .int v38), (5, .int v24), (0, .ref a0), (1, .int a1)]) hx hb dX5_readSum_90 hl45 (k := 5) rfl ev52 (by decide) rfl (fun l53 hl54 => ?_)
                  refine lv_goto (tgt := 7) hx hb dX5_readSum_93 (by decide) ?_
                  exact ih_7 a1 v38 v52 E49 H50 k51 l53 S49 F49 (by have := fb_rng a1; have := fb_rng a1; omega) (by have := fb_rng a1; have := fb_rng a1; omega) (by have := fb_rng a1; have := fb_rng a1; omega) (by have := fb_rng a1; have := fb_rng a1; omega) (Or.inl ⟨by omega, by rw [((fi_put (k := 4) P49 (Or.inr (by decide))).trans (p17_1 4 (by decide)))]; omega, by have q8 : ¬ 8 ≤ x4_7.toInt.toNat := fun z => part8 (B := (tx E qt a0 2)) (n := (fi E a0 2).toInt.toNat) (s := skI (tx E qt a0 2) (fi E a0 2).toInt.toNat (fi E_7 a0 3).toInt.toNat) z r0_39; omega, by rw [((fi_put (k := 9) P49 (Or.inr (by decide))).trans (p17_1 9 (by decide)))]; have q := pt_22 (by omega); omega, by rw [show (fi E49 a0 3).toInt.toNat = skI (tx E qt a0 2) (fi E a0 2).toInt.toNat (partI (tx E qt a0 2) (fi E a0 2).toInt.toNat x4_7.toInt.toNat (skI (tx E qt a0 2) (fi E a0 2).toInt.toNat (fi E_7 a0 3).toInt.toNat)).2.2 + 1 from by have q := po_87; omega, show 9 - v52.toInt.toNat = 8 - x4_7.toInt.toNat from by omega, show v52.toInt.toNat = x4_7.toInt.toNat + 1 from by omega, ← a7s, sum_go (fun z => z r0_39) (by rw [← pk2_30]; omega)]⟩) (RdW.same p13_3 ((P49.1 qe (ne_ro tqe ta0 (by decide))).trans (G17 qe hqe (by rw [tqe]; rfl))) ((P49.1 qs (ne_ro tqs ta0 (by decide))).trans (G17 qs hqs (by rw [tqs]; rfl))) ((fi_put (k := 7) P49 (Or.inr (by decide))).trans (p17_1 7 (by decide))) ((fi_put (k := 8) P49 (Or.inr (by decide))).trans (p17_1 8 (by decide))) ((fi_put (k := 9) P49 (Or.inr (by decide))).trans (p17_1 9 (by decide)))) (fun k hk => ((fi_put P49 (Or.inr (fw_ne (by decide) hk))).trans ((p17_1 k (fw_sub (by decide) hk)).trans ((p13_2 k (fw_sub (by decide) hk)).trans (z7 k hk))))) (by rw [(fi_at P49)]; have := fb_rng a1; have := fb_rng a1; omega) (by rw [((fi_put (k := 2) P49 (Or.inr (by decide))).trans ((p17_1 2 (by decide)).trans ((p13_2 2 (by decide)).trans rfl)))]; have := fb_rng a1; have := fb_rng a1; omega) (by omega) (lv_sub hl54 [4, 5, 1, 2, 0] rfl)
            · skip
              have tc37 := nu_ne c37
              refine lv_iload hx hb dX5_readSum_49 (lv_at hl26 0 rfl) ?_
              obtain ⟨v55, ev55, tv55⟩ : ∃ v : Int32, (Int8.ofInt (45)).toInt32 = v ∧ v.toInt = 45 := ⟨_, rfl, by decide +kernel⟩
              refine lv_bipush hx hb dX5_readSum_51 ev55 ?_
              refine lv_icmp_ne (tgt := 60) hx hb dX5_readSum_53 (by decide) (fun c56 => ?_) (fun c56 => ?_)
              · skip
                have tc56 := nu_ne c56
                obtain ⟨v57, ev57, tv57⟩ : ∃ v : Int32, Int32.ofInt (0) = v ∧ v.toInt = 0 := ⟨_, rfl, by decide +kernel⟩
                refine lv_iconst hx hb dX5_readSum_60 ev57 ?_
                refine lv_istore_n (lv' := [(3, .int v57), (5, .int v24), (0, .ref a0), (1, .int a1), (2, .int x2_7), (4, .int x4_7)]) hx hb dX5_readSum_61 rfl hl26 (by decide) rfl (fun l58 hl59 => ?_)
                refine lv_iload_n hx hb dX5_readSum_62 rfl (lv_at hl59 0 rfl) ?_
                refine lv_if_eq (tgt := 90) hx hb dX5_readSum_63 (by decide) (fun c60 => ?_) (fun c60 => ?_)
                · skip
                  have tc60 := nu_eq c60
                  have uc60 : (0 : Int32).toInt = 0 := rfl
                  obtain ⟨v61, ev61⟩ : ∃ y : Int32, x4_7 + Int32.ofInt (1) = y := ⟨_, rfl⟩
                  have tv61 : v61.toInt = x4_7.toInt + (1) := by rw [← ev61]; exact (fb_addI (by rw [show (Int32.ofInt (1)).toInt = 1 from by decide +kernel]; omega) (by rw [show (Int32.ofInt (1)).toInt = 1 from by decide +kernel]; omega)).trans (by rw [show (Int32.ofInt (1)).toInt = 1 from by decide +kernel])
                  refine lv_iinc (v := v61) (lv' := [(4, .int v61), (3, .int v57), (5, .int v24), (0, .ref a0), (1, .int a1), (2, .int x2_7)]) hx hb dX5_readSum_90 hl59 (k := 5) rfl ev61 (by decide) rfl (fun l62 hl63 => ?_)
                  refine lv_goto (tgt := 7) hx hb dX5_readSum_93 (by decide) ?_
                  exact ih_7 x2_7 v57 v61 E17 H22 k23 l62 S21 F17 (by have := fb_rng a1; have := fb_rng x2_7; omega) (by have := fb_rng a1; have := fb_rng x2_7; omega) (by have := fb_rng a1; have := fb_rng x2_7; omega) (by have := fb_rng a1; have := fb_rng x2_7; omega) (Or.inr ⟨by omega, by rw [← a7s, sum_end (fun z => z r0_39) (by rw [← pk2_30]; omega)]; exact Did.ok (by rw [(p17_1 4 (by decide))]; omega) (by have q := po2_26; omega), fun _ => by have q8 : ¬ 8 ≤ x4_7.toInt.toNat := (fun z => part8 (B := (tx E qt a0 2)) (n := (fi E a0 2).toInt.toNat) (s := skI (tx E qt a0 2) (fi E a0 2).toInt.toNat (fi E_7 a0 3).toInt.toNat) z r0_39); rw [(p17_1 9 (by decide))]; have q := pt_22 (by omega); omega⟩) (RdW.same p13_3 (G17 qe hqe (by rw [tqe]; rfl)) (G17 qs hqs (by rw [tqs]; rfl)) (p17_1 7 (by decide)) (p17_1 8 (by decide)) (p17_1 9 (by decide))) (fun k hk => ((p17_1 k (fw_sub (by decide) hk)).trans ((p13_2 k (fw_sub (by decide) hk)).trans (z7 k hk)))) (by have := fb_rng a1; have := fb_rng x2_7; omega) (by rw [((p17_1 2 (by decide)).trans ((p13_2 2 (by decide)).trans rfl))]; have := fb_rng a1; have := fb_rng x2_7; omega) (by omega) (lv_sub hl63 [3, 4, 5, 1, 0] rfl)
                · skip
                  have tc60 := nu_ne c60
                  have uc60 : (0 : Int32).toInt = 0 := rfl
                  omega
              · skip
                have tc56 := nu_eq c56
                obtain ⟨v64, ev64, tv64⟩ : ∃ v : Int32, Int32.ofInt (1) = v ∧ v.toInt = 1 := ⟨_, rfl, by decide +kernel⟩
                refine lv_iconst hx hb dX5_readSum_56 ev64 ?_
                refine lv_goto (tgt := 61) hx hb dX5_readSum_57 (by decide) ?_
                refine lv_istore_n (lv' := [(3, .int v64), (5, .int v24), (0, .ref a0), (1, .int a1), (2, .int x2_7), (4, .int x4_7)]) hx hb dX5_readSum_61 rfl hl26 (by decide) rfl (fun l65 hl66 => ?_)
                refine lv_iload_n hx hb dX5_readSum_62 rfl (lv_at hl66 0 rfl) ?_
                refine lv_if_eq (tgt := 90) hx hb dX5_readSum_63 (by decide) (fun c67 => ?_) (fun c67 => ?_)
                · skip
                  have tc67 := nu_eq c67
                  have uc67 : (0 : Int32).toInt = 0 := rfl
                  omega
                · skip
                  have tc67 := nu_ne c67
                  have uc67 : (0 : Int32).toInt = 0 := rfl
                  refine lv_iload hx hb dX5_readSum_66 (lv_at hl66 1 rfl) ?_
                  obtain ⟨v68, ev68, tv68⟩ : ∃ v : Int32, (Int8.ofInt (43)).toInt32 = v ∧ v.toInt = 43 := ⟨_, rfl, by decide +kernel⟩
                  refine lv_bipush hx hb dX5_readSum_68 ev68 ?_
                  refine lv_icmp_ne (tgt := 77) hx hb dX5_readSum_70 (by decide) (fun c69 => ?_) (fun c69 => ?_)
                  · skip
                    have tc69 := nu_ne c69
                    refine lv_iload_n hx hb dX5_readSum_77 rfl (lv_at hl66 3 rfl) ?_
                    refine lv_ineg hx hb dX5_readSum_78 ?_
                    refine lv_topi (fun v70 ev70 => ?_)
                    refine lv_istore_n (lv' := [(2, .int v70), (3, .int v64), (5, .int v24), (0, .ref a0), (1, .int a1), (4, .int x4_7)]) hx hb dX5_readSum_79 rfl hl66 (by decide) rfl (fun l71 hl72 => ?_)
                    refine lv_aload_n hx hb dX5_readSum_80 rfl (lv_at hl72 3 rfl) ?_
                    refine lv_dup hx hb dX5_readSum_81 rfl ?_
                    refine tr_geti Z.1 Z.2.2.2.1 S21.1 S21.2 ha0 ta0 rfl rfl (fun _ h => List.mem_cons_of_mem _ (List.mem_append_right _ h)) 3 (by decide) rfl (hts _ (List.mem_of_getElem? (i := 2) rfl)) dX5_readSum_82 (fun v73 ev73 lv73 uv73 => ?_)
                    have wv73 : v73 = (fi E17 a0 3) := ev73.symm.trans rfl
                    have xv73 : v73.toInt = (fi E17 a0 3).toInt := by rw [wv73]
                    obtain ⟨v74, ev74, tv74⟩ : ∃ v : Int32, Int32.ofInt (1) = v ∧ v.toInt = 1 := ⟨_, rfl, by decide +kernel⟩
                    refine lv_iconst hx hb dX5_readSum_85 ev74 ?_
                    refine lv_iadd hx hb dX5_readSum_86 ?_
                    refine lv_topi (fun v75 ev75 => ?_)
                    have tv75 := nu_add ev75 (by omega) (by omega)
                    refine tr_puti Z.1 Z.2.2.2.1 S21.1 S21.2 ha0 ta0 rfl rfl (fun _ h => List.mem_cons_of_mem _ (List.mem_append_right _ h)) tyX5_ok nmX5 3 (by decide) rfl rfl rfl (hts _ (List.mem_of_getElem? (i := 2) rfl)) dX5_readSum_87 (by omega) (by omega) (fun E76 H77 k78 W76 I76 P76 => ?_)
                    have S76 : Now D TB cy (va_A (va_pl L E) sz) s L τ E76 H77 k78 := ⟨W76, I76⟩
                    have F76 : Fr L τ (inW [(7, 0), (34, 0), (35, 0), (36, 0)]) E E76 := Fr.put F17 P76 ta0 rfl
                    have po_87 : (fi E76 a0 3).toInt = ((((skI (tx E qt a0 2) (fi E a0 2).toInt.toNat (partI (tx E qt a0 2) (fi E a0 2).toInt.toNat x4_7.toInt.toNat (skI (tx E qt a0 2) (fi E a0 2).toInt.toNat (fi E_7 a0 3).toInt.toNat)).2.2) + 1) : Nat) : Int) := by have q : (fi E17 a0 3).toInt = (((skI (tx E qt a0 2) (fi E a0 2).toInt.toNat (partI (tx E qt a0 2) (fi E a0 2).toInt.toNat x4_7.toInt.toNat (skI (tx E qt a0 2) (fi E a0 2).toInt.toNat (fi E_7 a0 3).toInt.toNat)).2.2) : Nat) : Int) := po2_26; rw [(fi_at P76)]; omega
                    obtain ⟨v79, ev79⟩ : ∃ y : Int32, x4_7 + Int32.ofInt (1) = y := ⟨_, rfl⟩
                    have tv79 : v79.toInt = x4_7.toInt + (1) := by rw [← ev79]; exact (fb_addI (by rw [show (Int32.ofInt (1)).toInt = 1 from by decide +kernel]; omega) (by rw [show (Int32.ofInt (1)).toInt = 1 from by decide +kernel]; omega)).trans (by rw [show (Int32.ofInt (1)).toInt = 1 from by decide +kernel])
                    refine lv_iinc (v := v79) (lv' := [(4, .int v79), (2, .int v70), (3, .int v64), (5, .int v24), (0, .ref a0), (1, .int a1)]) hx hb dX5_readSum_90 hl72 (k := 5) rfl ev79 (by decide) rfl (fun l80 hl81 => ?_)
                    refine lv_goto (tgt := 7) hx hb dX5_readSum_93 (by decide) ?_
                    exact ih_7 v70 v64 v79 E76 H77 k78 l80 S76 F76 (by have := fb_rng v70; have := fb_rng a1; omega) (by have := fb_rng v70; have := fb_rng a1; omega) (by have := fb_rng v70; have := fb_rng a1; omega) (by have := fb_rng v70; have := fb_rng a1; omega) (Or.inl ⟨by omega, by rw [((fi_put (k := 4) P76 (Or.inr (by decide))).trans (p17_1 4 (by decide)))]; omega, by have q8 : ¬ 8 ≤ x4_7.toInt.toNat := fun z => part8 (B := (tx E qt a0 2)) (n := (fi E a0 2).toInt.toNat) (s := skI (tx E qt a0 2) (fi E a0 2).toInt.toNat (fi E_7 a0 3).toInt.toNat) z r0_39; omega, by rw [((fi_put (k := 9) P76 (Or.inr (by decide))).trans (p17_1 9 (by decide)))]; have q := pt_22 (by omega); omega, by rw [show (fi E76 a0 3).toInt.toNat = skI (tx E qt a0 2) (fi E a0 2).toInt.toNat (partI (tx E qt a0 2) (fi E a0 2).toInt.toNat x4_7.toInt.toNat (skI (tx E qt a0 2) (fi E a0 2).toInt.toNat (fi E_7 a0 3).toInt.toNat)).2.2 + 1 from by have q := po_87; omega, show 9 - v79.toInt.toNat = 8 - x4_7.toInt.toNat from by omega, show v79.toInt.toNat = x4_7.toInt.toNat + 1 from by omega, ← a7s, sum_go (fun z => z r0_39) (by rw [← pk2_30]; omega)]⟩) (RdW.same p13_3 ((P76.1 qe (ne_ro tqe ta0 (by decide))).trans (G17 qe hqe (by rw [tqe]; rfl))) ((P76.1 qs (ne_ro tqs ta0 (by decide))).trans (G17 qs hqs (by rw [tqs]; rfl))) ((fi_put (k := 7) P76 (Or.inr (by decide))).trans (p17_1 7 (by decide))) ((fi_put (k := 8) P76 (Or.inr (by decide))).trans (p17_1 8 (by decide))) ((fi_put (k := 9) P76 (Or.inr (by decide))).trans (p17_1 9 (by decide)))) (fun k hk => ((fi_put P76 (Or.inr (fw_ne (by decide) hk))).trans ((p17_1 k (fw_sub (by decide) hk)).trans ((p13_2 k (fw_sub (by decide) hk)).trans (z7 k hk))))) (by rw [(fi_at P76)]; have := fb_rng v70; have := fb_rng a1; omega) (by rw [((fi_put (k := 2) P76 (Or.inr (by decide))).trans ((p17_1 2 (by decide)).trans ((p13_2 2 (by decide)).trans rfl)))]; have := fb_rng v70; have := fb_rng a1; omega) (by omega) (lv_sub hl81 [4, 5, 1, 2, 0] rfl)
                  · skip
                    have tc69 := nu_eq c69
                    omega
  refine lv_iload_n hx hb dX5_readSum_0 rfl (lv_at hl 1 rfl) ?_
  refine lv_istore_n (lv' := [(2, .int a1), (0, .ref a0), (1, .int a1)]) hx hb dX5_readSum_1 rfl hl (by decide) rfl (fun l82 hl83 => ?_)
  obtain ⟨v84, ev84, tv84⟩ : ∃ v : Int32, Int32.ofInt (1) = v ∧ v.toInt = 1 := ⟨_, rfl, by decide +kernel⟩
  refine lv_iconst hx hb dX5_readSum_2 ev84 ?_
  refine lv_istore_n (lv' := [(3, .int v84), (2, .int a1), (0, .ref a0), (1, .int a1)]) hx hb dX5_readSum_3 rfl hl83 (by decide) rfl (fun l85 hl86 => ?_)
  obtain ⟨v87, ev87, tv87⟩ : ∃ v : Int32, Int32.ofInt (0) = v ∧ v.toInt = 0 := ⟨_, rfl, by decide +kernel⟩
  refine lv_iconst hx hb dX5_readSum_4 ev87 ?_
  refine lv_istore (lv' := [(4, .int v87), (3, .int v84), (2, .int a1), (0, .ref a0), (1, .int a1)]) hx hb dX5_readSum_5 hl86 (by decide) rfl (fun l88 hl89 => ?_)
  exact J7 _ a1 v84 v87 E s.heap [] l88 S0 F0_ (by have := fb_rng a1; have := fb_rng a1; omega) (by have := fb_rng a1; have := fb_rng a1; omega) (by have := fb_rng a1; have := fb_rng a1; omega) (by have := fb_rng a1; have := fb_rng a1; omega) (Or.inl ⟨by omega, h4, by omega, by omega, by rw [show v87.toInt.toNat = 0 from by omega]; rfl⟩) hR (fun k hk => ((fun k hk => rfl) k hk)) (by have := fb_rng a1; have := fb_rng a1; omega) (by have := fb_rng a1; have := fb_rng a1; omega) (Nat.lt_succ_self _) (lv_sub hl89 [3, 4, 2, 1, 0] rfl)

set_option maxHeartbeats 4000000 in
set_option maxRecDepth 100000 in
theorem k_X5_readComparison_vr (l : Launch) (D : va_G) (cy : Nat → ClassId) {L : List Nat} {τ : Nat → Ro} {E : Ec} (hI : Inv TB cy L τ E) {G : Sg} {a0 : Nat} (ha0 : a0 ∈ L) (ta0 : τ a0 = (7, 0)) {qe : Nat} (hqe : qe ∈ L) (tqe : τ qe = (33, 0)) {qs : Nat} (hqs : qs ∈ L) (tqs : τ qs = (36, 0)) {qt : Nat} (hqt : qt ∈ L) (tqt : τ qt = (32, 0)) (h4 : (fi E a0 4).toInt = 0) (h9 : (fi E a0 9).toInt ≤ 48) (h8 : (fi E a0 8).toInt ≤ 3) (hR : RdW E a0 qe qs) : CtV1 G l yX5_readComparison wsX5_readComparison { frames := 9, cells := 0, slots := 0, locals := 202 } D TB cy L τ E [.ref a0] (inW [(7, 0), (34, 0), (35, 0), (36, 0), (33, 0)]) (fun E' => (Did (fi E' a0 4).toInt (fi E' a0 5).toInt (fi E' a0 3).toInt (compI (tx E qt a0 2) (fi E a0 2).toInt.toNat (fi E a0 3).toInt.toNat)) ∧ ((fi E' a0 4).toInt = 0 → (fi E' a0 8).toInt = (fi E a0 8).toInt + 1 ∧ (fi E' a0 9).toInt ≤ (fi E a0 9).toInt + 16) ∧ (∀ k : Nat, k ∉ ([3, 4, 5, 7, 8, 9] : List Nat) → fi E' a0 k = fi E a0 k) ∧ RdW E' a0 qe qs) := by
  intro sz
  refine sta1 (cc := cX5_readComparison) (maxL := 4) hI (by decide) rfl (Nat.le_of_ble_eq_true rfl) (fun p e s m args below meth c ls hsz Z SZ S0 hl => ?_)
  have hx := Z.1.1
  have hb := Z.1.2.1
  have hts := Z.1.2.2.2.2
  have F0_ : Fr L τ (inW [(7, 0), (34, 0), (35, 0), (36, 0), (33, 0)]) E E := Fr.refl
  have hl : lv_has ls 4 [(0, .ref a0)] := hl
  generalize hQ : MQ below _ args s 0 0 _ = QQ
  have kz_a0_9 := fi_rng (k := 9) hI ha0 ta0 rfl rfl
  have kz_a0_8 := fi_rng (k := 8) hI ha0 ta0 rfl rfl
  have kz_a0_4 := fi_rng (k := 4) hI ha0 ta0 rfl rfl
  have kz_a0_5 := fi_rng (k := 5) hI ha0 ta0 rfl rfl
  have kz_a0_3 := fi_rng (k := 3) hI ha0 ta0 rfl rfl
  have kz_a0_2 := fi_rng (k := 2) hI ha0 ta0 rfl rfl
  have hTr : ∀ p : Nat, -128 ≤ (tx E qt a0 2) p ∧ (tx E qt a0 2) p ≤ 127 := tx_rng hI hqt tqt rfl (by omega)
  have J56 : ∀ (n : Nat) (x2_56 : Int32) (x3_56 : Int32) (E_56 : Ec) (H_56 : Heap) (k_56 : List Loc) (l_56 : Array Slot), Now D TB cy (va_A (va_pl L E) sz) s L τ E_56 H_56 k_56 → Fr L τ (inW [(7, 0), (34, 0), (35, 0), (36, 0), (33, 0)]) E E_56 → (-1 ≤ x2_56.toInt) → (x2_56.toInt ≤ 1) → (0 ≤ x3_56.toInt) → (x3_56.toInt ≤ 64) → (Did (fi E_56 a0 4).toInt (fi E_56 a0 5).toInt (fi E_56 a0 3).toInt (compI (tx E qt a0 2) (fi E a0 2).toInt.toNat (fi E a0 3).toInt.toNat)) → ((fi E_56 a0 9).toInt ≤ (fi E a0 9).toInt + 16) → (RdW E_56 a0 qe qs) → (∀ k : Nat, k ∉ ([3, 4, 5, 7, 8, 9] : List Nat) → fi E_56 a0 k = fi E a0 k) → (0 ≤ (fi E_56 a0 8).toInt ∧ (fi E_56 a0 8).toInt ≤ 3 ∧ (fi E_56 a0 8).toInt = (fi E a0 8).toInt) → (64 - x3_56.toInt).toNat < n → lv_has l_56 4 [(0, .ref a0), (2, .int x2_56), (3, .int x3_56)] → W p l e { frames := 9, cells := 0, slots := 0, locals := 202 } s m args below meth c H_56 k_56 0 0 QQ (F0 m 56 l_56 []) := by
    intro n
    induction n with
    | zero => intro x2_56 x3_56 E_56 H_56 k_56 l_56 S_56 F_56 z1 z2 z3 z4 z5 z6 z7 z8 z9 hm hl_56; exact absurd hm (Nat.not_lt_zero _)
    | succ n ih =>
      intro x2_56 x3_56 E_56 H_56 k_56 l_56 S_56 F_56 z1 z2 z3 z4 z5 z6 z7 z8 z9 hm hl_56
      have ih_56 := ih
      refine lv_iload_n hx hb dX5_readComparison_56 rfl (lv_at hl_56 2 rfl) ?_
      refine lv_aload_n hx hb dX5_readComparison_57 rfl (lv_at hl_56 0 rfl) ?_
      refine tr_geti Z.1 Z.2.2.2.1 S_56.1 S_56.2 ha0 ta0 rfl rfl (fun _ h => List.mem_cons_of_mem _ (List.mem_append_right _ h)) 9 (by decide) rfl (hts _ (List.mem_of_getElem? (i := 1) rfl)) dX5_readComparison_58 (fun v10 ev10 lv10 uv10 => ?_)
      refine lv_icmp_ge (tgt := 80) hx hb dX5_readComparison_61 (by decide) (fun c11 => ?_) (fun c11 => ?_)
      · skip
        have tc11 := nu_le c11
        refine lv_aload_n hx hb dX5_readComparison_80 rfl (lv_at hl_56 0 rfl) ?_
        refine tr_getr Z.1 Z.2.2.2.1 S_56.1 S_56.2 ha0 ta0 rfl rfl (fun _ h => List.mem_cons_of_mem _ (List.mem_append_right _ h)) 10 (by decide) rfl (hts _ (List.mem_of_getElem? (i := 5) rfl)) dX5_readComparison_81 (fun q12 eq12 hq12 tq12 => ?_)
        have tq12 : τ q12 = (33, 0) := tq12
        have uq12 : qe = q12 := S_56.2.2.2.2 _ hqe _ hq12 (tqe.trans tq12.symm) (by rw [tqe]; rfl)
        subst uq12
        refine lv_aload_n hx hb dX5_readComparison_84 rfl (lv_at hl_56 0 rfl) ?_
        refine tr_geti Z.1 Z.2.2.2.1 S_56.1 S_56.2 ha0 ta0 rfl rfl (fun _ h => List.mem_cons_of_mem _ (List.mem_append_right _ h)) 8 (by decide) rfl (hts _ (List.mem_of_getElem? (i := 3) rfl)) dX5_readComparison_85 (fun v13 ev13 lv13 uv13 => ?_)
        have wv13 : v13 = (fi E_56 a0 8) := ev13.symm.trans rfl
        have xv13 : v13.toInt = (fi E_56 a0 8).toInt := by rw [wv13]
        refine lv_aload_n hx hb dX5_readComparison_88 rfl (lv_at hl_56 0 rfl) ?_
        refine tr_geti Z.1 Z.2.2.2.1 S_56.1 S_56.2 ha0 ta0 rfl rfl (fun _ h => List.mem_cons_of_mem _ (List.mem_append_right _ h)) 9 (by decide) rfl (hts _ (List.mem_of_getElem? (i := 1) rfl)) dX5_readComparison_89 (fun v14 ev14 lv14 uv14 => ?_)
        have wv14 : v14 = v10 := ev14.symm.trans ev10
        have xv14 : v14.toInt = v10.toInt := by rw [wv14]
        refine tr_iast Z.1 Z.2.2.2.1 S_56.1 S_56.2 hqe tqe rfl (by omega) (by omega) (by omega) (by omega) dX5_readComparison_92 (fun E15 H16 k17 W15 I15 P15 => ?_)
        have S15 : Now D TB cy (va_A (va_pl L E) sz) s L τ E15 H16 k17 := ⟨W15, I15⟩
        have F15 : Fr L τ (inW [(7, 0), (34, 0), (35, 0), (36, 0), (33, 0)]) E E15 := Fr.set F_56 P15 tqe rfl
        refine lv_aload_n hx hb dX5_readComparison_93 rfl (lv_at hl_56 0 rfl) ?_
        refine lv_dup hx hb dX5_readComparison_94 rfl ?_
        refine tr_geti Z.1 Z.2.2.2.1 S15.1 S15.2 ha0 ta0 rfl rfl (fun _ h => List.mem_cons_of_mem _ (List.mem_append_right _ h)) 8 (by decide) rfl (hts _ (List.mem_of_getElem? (i := 3) rfl)) dX5_readComparison_95 (fun v18 ev18 lv18 uv18 => ?_)
        have wv18 : v18 = v13 := ev18.symm.trans ((fi_set (k := 8) P15 (ne_ro ta0 tqe (by decide))).trans ev13)
        have xv18 : v18.toInt = v13.toInt := by rw [wv18]
        obtain ⟨v19, ev19, tv19⟩ : ∃ v : Int32, Int32.ofInt (1) = v ∧ v.toInt = 1 := ⟨_, rfl, by decide +kernel⟩
        refine lv_iconst hx hb dX5_readComparison_98 ev19 ?_
        refine lv_iadd hx hb dX5_readComparison_99 ?_
        refine lv_topi (fun v20 ev20 => ?_)
        have tv20 := nu_add ev20 (by omega) (by omega)
        refine tr_puti Z.1 Z.2.2.2.1 S15.1 S15.2 ha0 ta0 rfl rfl (fun _ h => List.mem_cons_of_mem _ (List.mem_append_right _ h)) tyX5_ok nmX5 8 (by decide) rfl rfl rfl (hts _ (List.mem_of_getElem? (i := 3) rfl)) dX5_readComparison_100 (by omega) (by omega) (fun E21 H22 k23 W21 I21 P21 => ?_)
        have S21 : Now D TB cy (va_A (va_pl L E) sz) s L τ E21 H22 k23 := ⟨W21, I21⟩
        have F21 : Fr L τ (inW [(7, 0), (34, 0), (35, 0), (36, 0), (33, 0)]) E E21 := Fr.put F15 P21 ta0 rfl
        rw [← hQ]
        exact en_v Z S21 F21 ⟨(by rw [((fi_put (k := 4) P21 (Or.inr (by decide))).trans (fi_set (k := 4) P15 (ne_ro ta0 tqe (by decide)))), ((fi_put (k := 5) P21 (Or.inr (by decide))).trans (fi_set (k := 5) P15 (ne_ro ta0 tqe (by decide)))), ((fi_put (k := 3) P21 (Or.inr (by decide))).trans (fi_set (k := 3) P15 (ne_ro ta0 tqe (by decide))))]; exact z5), (fun _ => ⟨by rw [(fi_at P21)]; omega, by rw [((fi_put (k := 9) P21 (Or.inr (by decide))).trans (fi_set (k := 9) P15 (ne_ro ta0 tqe (by decide))))]; omega⟩), (fun k hk => ((fi_put P21 (Or.inr (fw_ne (by decide) hk))).trans ((fi_set P15 (ne_ro ta0 tqe (by decide))).trans (z8 k hk)))), (RdW.rel z7 (r := v13) (n := v14) ev13 ev14 (by omega) P15 (by omega) (P21.1 qe (ne_ro tqe ta0 (by decide))) ((P21.1 qs (ne_ro tqs ta0 (by decide))).trans (P15.1 qs (ne_ro tqs tqe (by decide)))) ((fi_put (k := 7) P21 (Or.inr (by decide))).trans (fi_set (k := 7) P15 (ne_ro ta0 tqe (by decide)))) (by rw [(fi_at P21)]; omega) ((fi_put (k := 9) P21 (Or.inr (by decide))).trans (fi_set (k := 9) P15 (ne_ro ta0 tqe (by decide)))))⟩ dX5_readComparison_103
      · skip
        have tc11 := nu_nle c11
        refine lv_aload_n hx hb dX5_readComparison_64 rfl (lv_at hl_56 0 rfl) ?_
        refine tr_getr Z.1 Z.2.2.2.1 S_56.1 S_56.2 ha0 ta0 rfl rfl (fun _ h => List.mem_cons_of_mem _ (List.mem_append_right _ h)) 11 (by decide) rfl (hts _ (List.mem_of_getElem? (i := 4) rfl)) dX5_readComparison_65 (fun q24 eq24 hq24 tq24 => ?_)
        have tq24 : τ q24 = (34, 0) := tq24
        refine lv_iload_n hx hb dX5_readComparison_68 rfl (lv_at hl_56 2 rfl) ?_
        refine lv_dup2_11 hx hb dX5_readComparison_69 rfl rfl ?_
        refine tr_iald Z.1 Z.2.2.2.1 S_56.1 S_56.2 hq24 tq24 rfl (by omega) (by omega) dX5_readComparison_70 (fun v25 ev25 lv25 uv25 => ?_)
        refine lv_iload_n hx hb dX5_readComparison_71 rfl (lv_at hl_56 1 rfl) ?_
        refine lv_imul hx hb dX5_readComparison_72 ?_
        refine lv_topi (fun v26 ev26 => ?_)
        refine tr_iast Z.1 Z.2.2.2.1 S_56.1 S_56.2 hq24 tq24 rfl (by omega) (by omega) (by have := fb_rng v26; omega) (by have := fb_rng v26; omega) dX5_readComparison_73 (fun E27 H28 k29 W27 I27 P27 => ?_)
        have S27 : Now D TB cy (va_A (va_pl L E) sz) s L τ E27 H28 k29 := ⟨W27, I27⟩
        have F27 : Fr L τ (inW [(7, 0), (34, 0), (35, 0), (36, 0), (33, 0)]) E E27 := Fr.set F_56 P27 tq24 rfl
        obtain ⟨v30, ev30⟩ : ∃ y : Int32, x3_56 + Int32.ofInt (1) = y := ⟨_, rfl⟩
        have tv30 : v30.toInt = x3_56.toInt + (1) := by rw [← ev30]; exact (fb_addI (by rw [show (Int32.ofInt (1)).toInt = 1 from by decide +kernel]; omega) (by rw [show (Int32.ofInt (1)).toInt = 1 from by decide +kernel]; omega)).trans (by rw [show (Int32.ofInt (1)).toInt = 1 from by decide +kernel])
        refine lv_iinc (v := v30) (lv' := [(3, .int v30), (0, .ref a0), (2, .int x2_56)]) hx hb dX5_readComparison_74 hl_56 (k := 2) rfl ev30 (by decide) rfl (fun l31 hl32 => ?_)
        refine lv_goto (tgt := 56) hx hb dX5_readComparison_77 (by decide) ?_
        exact ih_56 x2_56 v30 E27 H28 k29 l31 S27 F27 (by omega) (by omega) (by omega) (by omega) (by rw [(fi_set (k := 4) P27 (ne_ro ta0 tq24 (by decide))), (fi_set (k := 5) P27 (ne_ro ta0 tq24 (by decide))), (fi_set (k := 3) P27 (ne_ro ta0 tq24 (by decide)))]; exact z5) (by rw [(fi_set (k := 9) P27 (ne_ro ta0 tq24 (by decide)))]; exact z6) (RdW.same z7 (P27.1 qe (ne_ro tqe tq24 (by decide))) (P27.1 qs (ne_ro tqs tq24 (by decide))) (fi_set (k := 7) P27 (ne_ro ta0 tq24 (by decide))) (fi_set (k := 8) P27 (ne_ro ta0 tq24 (by decide))) (fi_set (k := 9) P27 (ne_ro ta0 tq24 (by decide)))) (fun k hk => ((fi_set P27 (ne_ro ta0 tq24 (by decide))).trans (z8 k hk))) (by rw [((fi_set (k := 8) P27 (ne_ro ta0 tq24 (by decide))).trans rfl)]; omega) (by omega) (lv_sub hl32 [1, 2, 0] rfl)
  refine lv_aload_n hx hb dX5_readComparison_0 rfl (lv_at hl 0 rfl) ?_
  refine tr_geti Z.1 Z.2.2.2.1 S0.1 S0.2 ha0 ta0 rfl rfl (fun _ h => List.mem_cons_of_mem _ (List.mem_append_right _ h)) 9 (by decide) rfl (hts _ (List.mem_of_getElem? (i := 1) rfl)) dX5_readComparison_1 (fun v33 ev33 lv33 uv33 => ?_)
  have wv33 : v33 = (fi E a0 9) := ev33.symm.trans rfl
  have xv33 : v33.toInt = (fi E a0 9).toInt := by rw [wv33]
  refine lv_istore_n (lv' := [(1, .int v33), (0, .ref a0)]) hx hb dX5_readComparison_4 rfl hl (by decide) rfl (fun l34 hl35 => ?_)
  refine lv_aload_n hx hb dX5_readComparison_5 rfl (lv_at hl35 1 rfl) ?_
  obtain ⟨v36, ev36, tv36⟩ : ∃ v : Int32, Int32.ofInt (1) = v ∧ v.toInt = 1 := ⟨_, rfl, by decide +kernel⟩
  refine lv_iconst hx hb dX5_readComparison_6 ev36 ?_
  have fe_7a : fi E a0 2 = fi E a0 2 := rfl
  have tq_7a : (tx E qt a0 2) = (tx E qt a0 2) := rfl
  have pz_7a : (fi E a0 3).toInt = (((fi E a0 3).toInt.toNat : Nat) : Int) := by omega
  have po_7a : (fi E a0 3).toInt = (((fi E a0 3).toInt.toNat : Nat) : Int) := pz_7a
  refine tc1_vv Z.1 Z.2.2.2.1 Z.2.2.2.2.1 Z.2.2.2.2.2 SZ S0.1 S0.2 ha0 ta0 rfl rfl (k_X5_readSum_vr l D cy S0.2 ha0 ta0 v36 hqe tqe hqs tqs hqt tqt h4 (by omega) hR) (cwV 1 hts gX5_readComparison_X5_readSum rfl rfl rfl (by decide +kernel) ⟨Nat.le_of_ble_eq_true rfl, Nat.le_of_ble_eq_true rfl⟩) rfl hl35.1 rfl (Nat.le_of_ble_eq_true rfl) dX5_readComparison_7 ⟨Nat.zero_le _, Nat.zero_le _⟩ (fun E37 H38 k39 W37 I37 G37 p37 => ?_)
  obtain ⟨p37_0, p37_1, p37_2, p37_3⟩ := p37
  have S37 : Now D TB cy (va_A (va_pl L E) sz) s L τ E37 H38 k39 := ⟨W37, I37⟩
  have F37 : Fr L τ (inW [(7, 0), (34, 0), (35, 0), (36, 0), (33, 0)]) E E37 := F0_.trans (G37.mono (inW_mono (by decide)))
  have ds_7 : Did (fi E37 a0 4).toInt (fi E37 a0 5).toInt (fi E37 a0 3).toInt (sumI (tx E qt a0 2) (fi E a0 2).toInt.toNat (fi E a0 3).toInt.toNat) := by have q := p37_0; exact q
  have kp_7f := fi_rng (k := 4) S37.2 ha0 ta0 rfl rfl
  have pt_7 := p37_1
  refine lv_aload_n hx hb dX5_readComparison_10 rfl (lv_at hl35 1 rfl) ?_
  refine tr_geti Z.1 Z.2.2.2.1 S37.1 S37.2 ha0 ta0 rfl rfl (fun _ h => List.mem_cons_of_mem _ (List.mem_append_right _ h)) 4 (by decide) rfl (hts _ (List.mem_of_getElem? (i := 2) rfl)) dX5_readComparison_11 (fun v41 ev41 lv41 uv41 => ?_)
  have wv41 : v41 = (fi E37 a0 4) := ev41.symm.trans rfl
  have xv41 : v41.toInt = (fi E37 a0 4).toInt := by rw [wv41]
  refine lv_if_ne (tgt := 24) hx hb dX5_readComparison_14 (by decide) (fun c42 => ?_) (fun c42 => ?_)
  · skip
    have tc42 := nu_ne c42
    have uc42 : (0 : Int32).toInt = 0 := rfl
    obtain ⟨v43, ev43, tv43⟩ : ∃ v : Int32, Int32.ofInt (0) = v ∧ v.toInt = 0 := ⟨_, rfl, by decide +kernel⟩
    refine lv_iconst hx hb dX5_readComparison_24 ev43 ?_
    refine lv_istore_n (lv' := [(2, .int v43), (1, .int v33), (0, .ref a0)]) hx hb dX5_readComparison_25 rfl hl35 (by decide) rfl (fun l44 hl45 => ?_)
    refine lv_aload_n hx hb dX5_readComparison_26 rfl (lv_at hl45 2 rfl) ?_
    refine tr_geti Z.1 Z.2.2.2.1 S37.1 S37.2 ha0 ta0 rfl rfl (fun _ h => List.mem_cons_of_mem _ (List.mem_append_right _ h)) 4 (by decide) rfl (hts _ (List.mem_of_getElem? (i := 2) rfl)) dX5_readComparison_27 (fun v46 ev46 lv46 uv46 => ?_)
    have wv46 : v46 = v41 := ev46.symm.trans ev41
    have xv46 : v46.toInt = v41.toInt := by rw [wv46]
    refine lv_if_ne (tgt := 38) hx hb dX5_readComparison_30 (by decide) (fun c47 => ?_) (fun c47 => ?_)
    · skip
      have tc47 := nu_ne c47
      have uc47 : (0 : Int32).toInt = 0 := rfl
      refine lv_aload_n hx hb dX5_readComparison_38 rfl (lv_at hl45 2 rfl) ?_
      refine tr_geti Z.1 Z.2.2.2.1 S37.1 S37.2 ha0 ta0 rfl rfl (fun _ h => List.mem_cons_of_mem _ (List.mem_append_right _ h)) 4 (by decide) rfl (hts _ (List.mem_of_getElem? (i := 2) rfl)) dX5_readComparison_39 (fun v48 ev48 lv48 uv48 => ?_)
      have wv48 : v48 = v46 := ev48.symm.trans ev46
      have xv48 : v48.toInt = v46.toInt := by rw [wv48]
      refine lv_if_ne (tgt := 53) hx hb dX5_readComparison_42 (by decide) (fun c49 => ?_) (fun c49 => ?_)
      · skip
        have tc49 := nu_ne c49
        have uc49 : (0 : Int32).toInt = 0 := rfl
        rw [← hQ]
        exact en_v Z S37 F37 ⟨(by rw [comp_1 (fun z => absurd (ds_7.1.trans z) (by omega))]; exact ds_7), (fun z => absurd z (by omega)), (fun k hk => ((p37_2 k (fw_sub (by decide) hk)).trans ((fun k hk => rfl) k hk))), p37_3⟩ dX5_readComparison_53
      · skip
        have tc49 := nu_eq c49
        have uc49 : (0 : Int32).toInt = 0 := rfl
        omega
    · skip
      have tc47 := nu_eq c47
      have uc47 : (0 : Int32).toInt = 0 := rfl
      omega
  · skip
    have tc42 := nu_eq c42
    have uc42 : (0 : Int32).toInt = 0 := rfl
    have r0_7 : (sumI (tx E qt a0 2) (fi E a0 2).toInt.toNat (fi E a0 3).toInt.toNat).1 = 0 := ds_7.1.symm.trans (by omega)
    have pr_7 : (fi E37 a0 3).toInt = (((sumI (tx E qt a0 2) (fi E a0 2).toInt.toNat (fi E a0 3).toInt.toNat).2.2 : Nat) : Int) := ds_7.2.2 r0_7
    refine lv_aload_n hx hb dX5_readComparison_17 rfl (lv_at hl35 1 rfl) ?_
    have fe_18a : fi E37 a0 2 = fi E a0 2 := (p37_2 2 (by decide))
    have tq_18a : tx E37 qt a0 2 = (tx E qt a0 2) := tx_same (F37 qt hqt (by rw [tqt]; rfl)) fe_18a
    have po_18a : (fi E37 a0 3).toInt = (((sumI (tx E qt a0 2) (fi E a0 2).toInt.toNat (fi E a0 3).toInt.toNat).2.2 : Nat) : Int) := pr_7
    have b4_18 : (fi E37 a0 4).toInt = 0 := by omega
    refine tc_vi Z.1 Z.2.2.2.1 Z.2.2.2.2.1 Z.2.2.2.2.2 S37.1 S37.2 ha0 ta0 rfl rfl (k_X5_readRel_vr l D cy S37.2 ha0 ta0 hqt tqt b4_18) (cwV 0 hts gX5_readComparison_X5_readRel rfl rfl rfl (by decide +kernel) ⟨Nat.le_of_ble_eq_true rfl, Nat.le_of_ble_eq_true rfl⟩) rfl hl35.1 rfl (Nat.le_of_ble_eq_true rfl) dX5_readComparison_18 ⟨Nat.zero_le _, Nat.zero_le _⟩ (fun v53 E50 H51 k52 W50 I50 G50 p50 => ?_)
    obtain ⟨p50_0, p50_1, p50_2, p50_3⟩ := p50
    have S50 : Now D TB cy (va_A (va_pl L E) sz) s L τ E50 H51 k52 := ⟨W50, I50⟩
    have F50 : Fr L τ (inW [(7, 0), (34, 0), (35, 0), (36, 0), (33, 0)]) E E50 := F37.trans (G50.mono (inW_mono (by decide)))
    have ds_18 : Did (fi E50 a0 4).toInt (fi E50 a0 5).toInt (fi E50 a0 3).toInt (relI (tx E qt a0 2) (fi E a0 2).toInt.toNat (sumI (tx E qt a0 2) (fi E a0 2).toInt.toNat (fi E a0 3).toInt.toNat).2.2) := by have q := p50_0; rw [tq_18a, fe_18a, show (fi E37 a0 3).toInt.toNat = (sumI (tx E qt a0 2) (fi E a0 2).toInt.toNat (fi E a0 3).toInt.toNat).2.2 from by omega] at q; exact q
    have kp_18f := fi_rng (k := 4) S50.2 ha0 ta0 rfl rfl
    refine lv_goto (tgt := 25) hx hb dX5_readComparison_21 (by decide) ?_
    refine lv_istore_n (lv' := [(2, .int v53), (1, .int v33), (0, .ref a0)]) hx hb dX5_readComparison_25 rfl hl35 (by decide) rfl (fun l54 hl55 => ?_)
    refine lv_aload_n hx hb dX5_readComparison_26 rfl (lv_at hl55 2 rfl) ?_
    refine tr_geti Z.1 Z.2.2.2.1 S50.1 S50.2 ha0 ta0 rfl rfl (fun _ h => List.mem_cons_of_mem _ (List.mem_append_right _ h)) 4 (by decide) rfl (hts _ (List.mem_of_getElem? (i := 2) rfl)) dX5_readComparison_27 (fun v56 ev56 lv56 uv56 => ?_)
    have wv56 : v56 = (fi E50 a0 4) := ev56.symm.trans rfl
    have xv56 : v56.toInt = (fi E50 a0 4).toInt := by rw [wv56]
    refine lv_if_ne (tgt := 38) hx hb dX5_readComparison_30 (by decide) (fun c57 => ?_) (fun c57 => ?_)
    · skip
      have tc57 := nu_ne c57
      have uc57 : (0 : Int32).toInt = 0 := rfl
      refine lv_aload_n hx hb dX5_readComparison_38 rfl (lv_at hl55 2 rfl) ?_
      refine tr_geti Z.1 Z.2.2.2.1 S50.1 S50.2 ha0 ta0 rfl rfl (fun _ h => List.mem_cons_of_mem _ (List.mem_append_right _ h)) 4 (by decide) rfl (hts _ (List.mem_of_getElem? (i := 2) rfl)) dX5_readComparison_39 (fun v58 ev58 lv58 uv58 => ?_)
      have wv58 : v58 = v56 := ev58.symm.trans ev56
      have xv58 : v58.toInt = v56.toInt := by rw [wv58]
      refine lv_if_ne (tgt := 53) hx hb dX5_readComparison_42 (by decide) (fun c59 => ?_) (fun c59 => ?_)
      · skip
        have tc59 := nu_ne c59
        have uc59 : (0 : Int32).toInt = 0 := rfl
        rw [← hQ]
        exact en_v Z S50 F50 ⟨(by rw [comp_2 (fun z => z r0_7) (fun z => absurd (ds_18.1.trans z) (by omega))]; exact ds_18), (fun z => absurd z (by omega)), (fun k hk => ((p50_3 k (fw_sub (by decide) hk)).trans ((p37_2 k (fw_sub (by decide) hk)).trans ((fun k hk => rfl) k hk)))), (RdW.same p37_3 (G50 qe hqe (by rw [tqe]; rfl)) (G50 qs hqs (by rw [tqs]; rfl)) (p50_3 7 (by decide)) (p50_3 8 (by decide)) (p50_3 9 (by decide)))⟩ dX5_readComparison_53
      · skip
        have tc59 := nu_eq c59
        have uc59 : (0 : Int32).toInt = 0 := rfl
        omega
    · skip
      have tc57 := nu_eq c57
      have uc57 : (0 : Int32).toInt = 0 := rfl
      have r0_18 : (relI (tx E qt a0 2) (fi E a0 2).toInt.toNat (sumI (tx E qt a0 2) (fi E a0 2).toInt.toNat (fi E a0 3).toInt.toNat).2.2).1 = 0 := ds_18.1.symm.trans (by omega)
      have pr_18 : (fi E50 a0 3).toInt = (((relI (tx E qt a0 2) (fi E a0 2).toInt.toNat (sumI (tx E qt a0 2) (fi E a0 2).toInt.toNat (fi E a0 3).toInt.toNat).2.2).2.2 : Nat) : Int) := ds_18.2.2 r0_18
      have b9_33 : (fi E50 a0 9).toInt ≤ 56 := by rw [(p50_3 9 (by decide))]; have q := pt_7 (by omega); omega
      have b4_33 : (fi E50 a0 4).toInt = 0 := by omega
      refine lv_aload_n hx hb dX5_readComparison_33 rfl (lv_at hl55 2 rfl) ?_
      obtain ⟨v60, ev60, tv60⟩ : ∃ v : Int32, Int32.ofInt (-1) = v ∧ v.toInt = -1 := ⟨_, rfl, by decide +kernel⟩
      refine lv_iconst hx hb dX5_readComparison_34 ev60 ?_
      have fe_35a : fi E50 a0 2 = fi E a0 2 := ((p50_3 2 (by decide)).trans (p37_2 2 (by decide)))
      have tq_35a : tx E50 qt a0 2 = (tx E qt a0 2) := tx_same (F50 qt hqt (by rw [tqt]; rfl)) fe_35a
      have po_35a : (fi E50 a0 3).toInt = (((relI (tx E qt a0 2) (fi E a0 2).toInt.toNat (sumI (tx E qt a0 2) (fi E a0 2).toInt.toNat (fi E a0 3).toInt.toNat).2.2).2.2 : Nat) : Int) := pr_18
      refine tc1_vv Z.1 Z.2.2.2.1 Z.2.2.2.2.1 Z.2.2.2.2.2 SZ S50.1 S50.2 ha0 ta0 rfl rfl (k_X5_readSum_vr l D cy S50.2 ha0 ta0 v60 hqe tqe hqs tqs hqt tqt b4_33 b9_33 (RdW.same p37_3 (G50 qe hqe (by rw [tqe]; rfl)) (G50 qs hqs (by rw [tqs]; rfl)) (p50_3 7 (by decide)) (p50_3 8 (by decide)) (p50_3 9 (by decide)))) (cwV 1 hts gX5_readComparison_X5_readSum rfl rfl rfl (by decide +kernel) ⟨Nat.le_of_ble_eq_true rfl, Nat.le_of_ble_eq_true rfl⟩) rfl hl55.1 rfl (Nat.le_of_ble_eq_true rfl) dX5_readComparison_35 ⟨Nat.zero_le _, Nat.zero_le _⟩ (fun E61 H62 k63 W61 I61 G61 p61 => ?_)
      obtain ⟨p61_0, p61_1, p61_2, p61_3⟩ := p61
      have S61 : Now D TB cy (va_A (va_pl L E) sz) s L τ E61 H62 k63 := ⟨W61, I61⟩
      have F61 : Fr L τ (inW [(7, 0), (34, 0), (35, 0), (36, 0), (33, 0)]) E E61 := F50.trans (G61.mono (inW_mono (by decide)))
      have ds_35 : Did (fi E61 a0 4).toInt (fi E61 a0 5).toInt (fi E61 a0 3).toInt (sumI (tx E qt a0 2) (fi E a0 2).toInt.toNat (relI (tx E qt a0 2) (fi E a0 2).toInt.toNat (sumI (tx E qt a0 2) (fi E a0 2).toInt.toNat (fi E a0 3).toInt.toNat).2.2).2.2) := by have q := p61_0; rw [tq_35a, fe_35a, show (fi E50 a0 3).toInt.toNat = (relI (tx E qt a0 2) (fi E a0 2).toInt.toNat (sumI (tx E qt a0 2) (fi E a0 2).toInt.toNat (fi E a0 3).toInt.toNat).2.2).2.2 from by omega] at q; exact q
      have kp_35f := fi_rng (k := 4) S61.2 ha0 ta0 rfl rfl
      have pt_35 := p61_1
      refine lv_aload_n hx hb dX5_readComparison_38 rfl (lv_at hl55 2 rfl) ?_
      refine tr_geti Z.1 Z.2.2.2.1 S61.1 S61.2 ha0 ta0 rfl rfl (fun _ h => List.mem_cons_of_mem _ (List.mem_append_right _ h)) 4 (by decide) rfl (hts _ (List.mem_of_getElem? (i := 2) rfl)) dX5_readComparison_39 (fun v65 ev65 lv65 uv65 => ?_)
      have wv65 : v65 = (fi E61 a0 4) := ev65.symm.trans rfl
      have xv65 : v65.toInt = (fi E61 a0 4).toInt := by rw [wv65]
      refine lv_if_ne (tgt := 53) hx hb dX5_readComparison_42 (by decide) (fun c66 => ?_) (fun c66 => ?_)
      · skip
        have tc66 := nu_ne c66
        have uc66 : (0 : Int32).toInt = 0 := rfl
        rw [← hQ]
        exact en_v Z S61 F61 ⟨(by rw [comp_3 (fun z => z r0_7) (fun z => z r0_18)]; exact ds_35), (fun z => absurd z (by omega)), (fun k hk => ((p61_2 k (fw_sub (by decide) hk)).trans ((p50_3 k (fw_sub (by decide) hk)).trans ((p37_2 k (fw_sub (by decide) hk)).trans ((fun k hk => rfl) k hk))))), p61_3⟩ dX5_readComparison_53
      · skip
        have tc66 := nu_eq c66
        have uc66 : (0 : Int32).toInt = 0 := rfl
        have r0_35 : (sumI (tx E qt a0 2) (fi E a0 2).toInt.toNat (relI (tx E qt a0 2) (fi E a0 2).toInt.toNat (sumI (tx E qt a0 2) (fi E a0 2).toInt.toNat (fi E a0 3).toInt.toNat).2.2).2.2).1 = 0 := ds_35.1.symm.trans (by omega)
        have pr_35 : (fi E61 a0 3).toInt = (((sumI (tx E qt a0 2) (fi E a0 2).toInt.toNat (relI (tx E qt a0 2) (fi E a0 2).toInt.toNat (sumI (tx E qt a0 2) (fi E a0 2).toInt.toNat (fi E a0 3).toInt.toNat).2.2).2.2).2.2 : Nat) : Int) := ds_35.2.2 r0_35
        refine lv_aload_n hx hb dX5_readComparison_45 rfl (lv_at hl55 2 rfl) ?_
        refine tr_geti Z.1 Z.2.2.2.1 S61.1 S61.2 ha0 ta0 rfl rfl (fun _ h => List.mem_cons_of_mem _ (List.mem_append_right _ h)) 8 (by decide) rfl (hts _ (List.mem_of_getElem? (i := 3) rfl)) dX5_readComparison_46 (fun v67 ev67 lv67 uv67 => ?_)
        have wv67 : v67 = (fi E a0 8) := ev67.symm.trans ((p61_2 8 (by decide)).trans ((p50_3 8 (by decide)).trans ((p37_2 8 (by decide)).trans rfl)))
        have xv67 : v67.toInt = (fi E a0 8).toInt := by rw [wv67]
        obtain ⟨v68, ev68, tv68⟩ : ∃ v : Int32, Int32.ofInt (4) = v ∧ v.toInt = 4 := ⟨_, rfl, by decide +kernel⟩
        refine lv_iconst hx hb dX5_readComparison_49 ev68 ?_
        refine lv_icmp_lt (tgt := 54) hx hb dX5_readComparison_50 (by decide) (fun c69 => ?_) (fun c69 => ?_)
        · skip
          have tc69 := nu_lt c69
          refine lv_iload_n hx hb dX5_readComparison_54 rfl (lv_at hl55 1 rfl) ?_
          refine lv_istore_n (lv' := [(3, .int v33), (2, .int v53), (1, .int v33), (0, .ref a0)]) hx hb dX5_readComparison_55 rfl hl55 (by decide) rfl (fun l70 hl71 => ?_)
          exact J56 _ v53 v33 E61 H62 k63 l70 S61 F61 (by omega) (by omega) (by omega) (by omega) (by rw [comp_3 (fun z => z r0_7) (fun z => z r0_18)]; exact ds_35) (by have q := pt_35 (by omega); have w := pt_7 (by omega); have e9 : (fi E50 a0 9).toInt = (fi E37 a0 9).toInt := (by rw [(p50_3 9 (by decide))]); omega) p61_3 (fun k hk => ((p61_2 k (fw_sub (by decide) hk)).trans ((p50_3 k (fw_sub (by decide) hk)).trans ((p37_2 k (fw_sub (by decide) hk)).trans ((fun k hk => rfl) k hk))))) (by rw [ev67]; omega) (Nat.lt_succ_self _) (lv_sub hl71 [3, 1, 0] rfl)
        · skip
          have tc69 := nu_nlt c69
          omega

