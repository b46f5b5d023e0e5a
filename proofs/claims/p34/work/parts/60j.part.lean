set_option maxHeartbeats 4000000 in
set_option maxRecDepth 100000 in
theorem k_X5_readPart_vr (l : Launch) (D : va_G) (cy : Nat → ClassId) {L : List Nat} {τ : Nat → Ro} {E : Ec} (hI : Inv TB cy L τ E) {G : Sg} {a0 : Nat} (ha0 : a0 ∈ L) (ta0 : τ a0 = (7, 0)) (a1 : Int32) (a2 : Int32) (la2 : 0 ≤ a2.toInt) (ua2 : a2.toInt ≤ 8) {qe : Nat} (hqe : qe ∈ L) (tqe : τ qe = (33, 0)) {qs : Nat} (hqs : qs ∈ L) (tqs : τ qs = (36, 0)) {qt : Nat} (hqt : qt ∈ L) (tqt : τ qt = (32, 0)) (h4 : (fi E a0 4).toInt = 0) (h9 : (fi E a0 9).toInt ≤ 56 + a2.toInt) (hR : RdW E a0 qe qs) : CtV1 G l yX5_readPart wsX5_readPart { frames := 7, cells := 0, slots := 0, locals := 151 } D TB cy L τ E [.ref a0, .int a1, .int a2] (inW [(7, 0), (34, 0), (35, 0), (36, 0)]) (fun E' => (Did (fi E' a0 4).toInt (fi E' a0 5).toInt (fi E' a0 3).toInt (partI (tx E qt a0 2) (fi E a0 2).toInt.toNat a2.toInt.toNat (skI (tx E qt a0 2) (fi E a0 2).toInt.toNat (fi E a0 3).toInt.toNat))) ∧ ((fi E' a0 4).toInt = 0 → (fi E' a0 9).toInt = (fi E a0 9).toInt + 1) ∧ (∀ k : Nat, k ∉ ([3, 4, 5, 7, 9] : List Nat) → fi E' a0 k = fi E a0 k) ∧ RdW E' a0 qe qs) := by
  intro sz
  refine sta1 (cc := cX5_readPart) (maxL := 7) hI (by decide) rfl (Nat.le_of_ble_eq_true rfl) (fun p e s m args below meth c ls hsz Z SZ S0 hl => ?_)
  have hx := Z.1.1
  have hb := Z.1.2.1
  have hts := Z.1.2.2.2.2
  have F0_ : Fr L τ (inW [(7, 0), (34, 0), (35, 0), (36, 0)]) E E := Fr.refl
  have hl : lv_has ls 7 [(0, .ref a0), (1, .int a1), (2, .int a2)] := hl
  generalize hQ : MQ below _ args s 0 0 _ = QQ
  have kz_a0_9 := fi_rng (k := 9) hI ha0 ta0 rfl rfl
  have kz_a0_4 := fi_rng (k := 4) hI ha0 ta0 rfl rfl
  have kz_a0_5 := fi_rng (k := 5) hI ha0 ta0 rfl rfl
  have kz_a0_3 := fi_rng (k := 3) hI ha0 ta0 rfl rfl
  have kz_a0_2 := fi_rng (k := 2) hI ha0 ta0 rfl rfl
  have hTr : ∀ p : Nat, -128 ≤ (tx E qt a0 2) p ∧ (tx E qt a0 2) p ≤ 127 := tx_rng hI hqt tqt rfl (by omega)
  refine lv_aload_n hx hb dX5_readPart_0 rfl (lv_at hl 0 rfl) ?_
  have fe_1a : fi E a0 2 = fi E a0 2 := rfl
  have tq_1a : (tx E qt a0 2) = (tx E qt a0 2) := rfl
  have pz_1a : (fi E a0 3).toInt = (((fi E a0 3).toInt.toNat : Nat) : Int) := by omega
  have po_1a : (fi E a0 3).toInt = (((fi E a0 3).toInt.toNat : Nat) : Int) := pz_1a
  refine tc_vv Z.1 Z.2.2.2.1 Z.2.2.2.2.1 Z.2.2.2.2.2 S0.1 S0.2 ha0 ta0 rfl rfl (k_X5_skipBlanks_vr l D cy S0.2 ha0 ta0 hqt tqt) (cwV 0 hts gX5_readPart_X5_skipBlanks rfl rfl rfl (by decide +kernel) ⟨Nat.le_of_ble_eq_true rfl, Nat.le_of_ble_eq_true rfl⟩) rfl hl.1 rfl (Nat.le_of_ble_eq_true rfl) dX5_readPart_1 ⟨Nat.zero_le _, Nat.zero_le _⟩ (fun E1 H2 k3 W1 I1 G1 p1 => ?_)
  obtain ⟨p1_0, p1_1⟩ := p1
  have S1 : Now D TB cy (va_A (va_pl L E) sz) s L τ E1 H2 k3 := ⟨W1, I1⟩
  have F1 : Fr L τ (inW [(7, 0), (34, 0), (35, 0), (36, 0)]) E E1 := F0_.trans (G1.mono (inW_mono (by decide)))
  have po_1 : (fi E1 a0 3).toInt = (((skI (tx E qt a0 2) (fi E a0 2).toInt.toNat (fi E a0 3).toInt.toNat) : Nat) : Int) := by have q := p1_0; skip; exact q
  have kp_1 := fi_rng (k := 3) S1.2 ha0 ta0 rfl rfl
  refine lv_aload_n hx hb dX5_readPart_4 rfl (lv_at hl 0 rfl) ?_
  refine tr_geti Z.1 Z.2.2.2.1 S1.1 S1.2 ha0 ta0 rfl rfl (fun _ h => List.mem_cons_of_mem _ (List.mem_append_right _ h)) 3 (by decide) rfl (hts _ (List.mem_of_getElem? (i := 1) rfl)) dX5_readPart_5 (fun v5 ev5 lv5 uv5 => ?_)
  have wv5 : v5 = (fi E1 a0 3) := ev5.symm.trans rfl
  have xv5 : v5.toInt = (fi E1 a0 3).toInt := by rw [wv5]
  refine lv_istore_n (lv' := [(3, .int v5), (0, .ref a0), (1, .int a1), (2, .int a2)]) hx hb dX5_readPart_8 rfl hl (by decide) rfl (fun l6 hl7 => ?_)
  refine lv_aload_n hx hb dX5_readPart_9 rfl (lv_at hl7 1 rfl) ?_
  have fe_10a : fi E1 a0 2 = fi E a0 2 := (p1_1 2 (by decide))
  have tq_10a : tx E1 qt a0 2 = (tx E qt a0 2) := tx_same (F1 qt hqt (by rw [tqt]; rfl)) fe_10a
  have po_10a : (fi E1 a0 3).toInt = (((skI (tx E qt a0 2) (fi E a0 2).toInt.toNat (fi E a0 3).toInt.toNat) : Nat) : Int) := po_1
  refine tc_vi Z.1 Z.2.2.2.1 Z.2.2.2.2.1 Z.2.2.2.2.2 S1.1 S1.2 ha0 ta0 rfl rfl (k_X5_peek_vr l D cy S1.2 ha0 ta0 hqt tqt) (cwV 0 hts gX5_readPart_X5_peek rfl rfl rfl (by decide +kernel) ⟨Nat.le_of_ble_eq_true rfl, Nat.le_of_ble_eq_true rfl⟩) rfl hl7.1 rfl (Nat.le_of_ble_eq_true rfl) dX5_readPart_10 ⟨Nat.zero_le _, Nat.zero_le _⟩ (fun v11 E8 H9 k10 W8 I8 G8 p8 => ?_)
  obtain ⟨q8, p8_0, p8_1, p8_2, p8_3⟩ := p8
  have q8 := q8.symm
  subst q8
  have S8 : Now D TB cy (va_A (va_pl L E) sz) s L τ E1 H9 k10 := ⟨W8, I8⟩
  try rw [ev5] at p8_0
  have pk_10 : v11.toInt = pkI (tx E qt a0 2) (fi E a0 2).toInt.toNat (skI (tx E qt a0 2) (fi E a0 2).toInt.toNat (fi E a0 3).toInt.toNat) := by have q := p8_1; rw [tq_10a, fe_10a, show (fi E1 a0 3).toInt.toNat = (skI (tx E qt a0 2) (fi E a0 2).toInt.toNat (fi E a0 3).toInt.toNat) from by omega] at q; exact q
  refine tc_si Z.1 Z.2.2.2.1 Z.2.2.2.2.1 Z.2.2.2.2.2 S8.1 (k_X5_isDigit_vr l D cy S8.2 v11) (va_cwS 1 hts gX5_readPart_X5_isDigit rfl rfl rfl (by decide +kernel) ⟨Nat.le_of_ble_eq_true rfl, Nat.le_of_ble_eq_true rfl⟩) rfl hl7.1 rfl (Nat.le_of_ble_eq_true rfl) dX5_readPart_13 ⟨Nat.zero_le _, Nat.zero_le _⟩ (fun v15 E12 H13 k14 W12 I12 G12 p12 => ?_)
  obtain ⟨q12, p12_0, p12_1, p12_2⟩ := p12
  have q12 := q12.symm
  subst q12
  have S12 : Now D TB cy (va_A (va_pl L E) sz) s L τ E1 H13 k14 := ⟨W12, I12⟩
  refine lv_istore (lv' := [(4, .int v15), (3, .int v5), (0, .ref a0), (1, .int a1), (2, .int a2)]) hx hb dX5_readPart_16 hl7 (by decide) rfl (fun l16 hl17 => ?_)
  refine lv_iload hx hb dX5_readPart_18 (lv_at hl17 0 rfl) ?_
  refine lv_if_eq (tgt := 30) hx hb dX5_readPart_20 (by decide) (fun c18 => ?_) (fun c18 => ?_)
  · skip
    have tc18 := nu_eq c18
    have uc18 : (0 : Int32).toInt = 0 := rfl
    obtain ⟨v19, ev19, tv19⟩ : ∃ v : Int32, Int32.ofInt (1) = v ∧ v.toInt = 1 := ⟨_, rfl, by decide +kernel⟩
    refine lv_iconst hx hb dX5_readPart_30 ev19 ?_
    refine lv_istore (lv' := [(5, .int v19), (4, .int v15), (3, .int v5), (0, .ref a0), (1, .int a1), (2, .int a2)]) hx hb dX5_readPart_31 hl17 (by decide) rfl (fun l20 hl21 => ?_)
    refine lv_iload hx hb dX5_readPart_33 (lv_at hl21 1 rfl) ?_
    refine lv_if_eq (tgt := 42) hx hb dX5_readPart_35 (by decide) (fun c22 => ?_) (fun c22 => ?_)
    · skip
      have tc22 := nu_eq c22
      have uc22 : (0 : Int32).toInt = 0 := rfl
      refine lv_aload_n hx hb dX5_readPart_42 rfl (lv_at hl21 3 rfl) ?_
      have fe_43a : fi E1 a0 2 = fi E a0 2 := (p1_1 2 (by decide))
      have tq_43a : tx E1 qt a0 2 = (tx E qt a0 2) := tx_same (F1 qt hqt (by rw [tqt]; rfl)) fe_43a
      have po_43a : (fi E1 a0 3).toInt = (((skI (tx E qt a0 2) (fi E a0 2).toInt.toNat (fi E a0 3).toInt.toNat) : Nat) : Int) := po_1
      refine tc1_vq Z.1 Z.2.2.2.1 Z.2.2.2.2.1 Z.2.2.2.2.2 SZ S12.1 S12.2 ha0 ta0 rfl rfl (k_X5_nameHere_vr l D cy S12.2 ha0 ta0 hqt tqt) (cwV 0 hts gX5_readPart_X5_nameHere rfl rfl rfl (by decide +kernel) ⟨Nat.le_of_ble_eq_true rfl, Nat.le_of_ble_eq_true rfl⟩) rfl hl21.1 rfl (Nat.le_of_ble_eq_true rfl) dX5_readPart_43 ⟨Nat.zero_le _, Nat.zero_le _⟩ (fun v26 E23 H24 k25 W23 I23 G23 p23 => ?_)
      obtain ⟨q23, p23_0, p23_1⟩ := p23
      have q23 := q23.symm
      subst q23
      have S23 : Now D TB cy (va_A (va_pl L E) sz) s L τ E1 H24 k25 := ⟨W23, I23⟩
      cases v26 with
      | none =>
        have nn_ := p23_0 rfl
        refine W.eq (g2 := F0 m 46 l20 [.null]) rfl ?_
        refine lv_astoreN (lv' := [(6, .null), (5, .int v19), (4, .int v15), (3, .int v5), (0, .ref a0), (1, .int a1), (2, .int a2)]) hx hb dX5_readPart_46 hl21 (by decide) rfl (fun l27 hl28 => ?_)
        refine lv_iload hx hb dX5_readPart_48 (lv_at hl28 1 rfl) ?_
        obtain ⟨v29, ev29, tv29⟩ : ∃ v : Int32, (Int16.ofInt (9999)).toInt32 = v ∧ v.toInt = 9999 := ⟨_, rfl, by decide +kernel⟩
        refine lv_sipush hx hb dX5_readPart_50 ev29 ?_
        refine lv_icmp_le (tgt := 65) hx hb dX5_readPart_53 (by decide) (fun c30 => ?_) (fun c30 => ?_)
        · skip
          have tc30 := nu_le c30
          refine lv_iload hx hb dX5_readPart_65 (lv_at hl28 2 rfl) ?_
          refine lv_if_ne (tgt := 84) hx hb dX5_readPart_67 (by decide) (fun c31 => ?_) (fun c31 => ?_)
          · skip
            have tc31 := nu_ne c31
            have uc31 : (0 : Int32).toInt = 0 := rfl
            omega
          · skip
            have tc31 := nu_eq c31
            have uc31 : (0 : Int32).toInt = 0 := rfl
            refine lv_aloadN hx hb dX5_readPart_70 (lv_at hl28 0 rfl) ?_
            refine lv_ifnonnullN hx hb dX5_readPart_72 ?_
            refine lv_aload_n hx hb dX5_readPart_75 rfl (lv_at hl28 4 rfl) ?_
            obtain ⟨v32, ev32, tv32⟩ : ∃ v : Int32, Int32.ofInt (1) = v ∧ v.toInt = 1 := ⟨_, rfl, by decide +kernel⟩
            refine lv_iconst hx hb dX5_readPart_76 ev32 ?_
            refine lv_iload_n hx hb dX5_readPart_77 rfl (lv_at hl28 3 rfl) ?_
            have f0_78 : (fi E1 a0 4).toInt = 0 := by rw [(p1_1 4 (by decide))]; exact h4
            refine tc_vv Z.1 Z.2.2.2.1 Z.2.2.2.2.1 Z.2.2.2.2.2 S23.1 S23.2 ha0 ta0 rfl rfl (k_X5_fail_vr l D cy S23.2 ha0 ta0 v32 (by omega) (by omega) v5) (cwV 2 hts gX5_readPart_X5_fail rfl rfl rfl (by decide +kernel) ⟨Nat.le_of_ble_eq_true rfl, Nat.le_of_ble_eq_true rfl⟩) rfl hl28.1 rfl (Nat.le_of_ble_eq_true rfl) dX5_readPart_78 ⟨Nat.zero_le _, Nat.zero_le _⟩ (fun E33 H34 k35 W33 I33 G33 p33 => ?_)
            obtain ⟨p33_0, p33_1⟩ := p33
            have S33 : Now D TB cy (va_A (va_pl L E) sz) s L τ E33 H34 k35 := ⟨W33, I33⟩
            have F33 : Fr L τ (inW [(7, 0), (34, 0), (35, 0), (36, 0)]) E E33 := F1.trans (G33.mono (inW_mono (by decide)))
            have ff_78 : (fi E33 a0 4).toInt = v32.toInt ∧ (fi E33 a0 5).toInt = v5.toInt := by rcases p33_0 with q | q; omega; exact q.2
            refine lv_goto (tgt := 140) hx hb dX5_readPart_81 (by decide) ?_
            refine lv_aload_n hx hb dX5_readPart_140 rfl (lv_at hl28 4 rfl) ?_
            refine tr_geti Z.1 Z.2.2.2.1 S33.1 S33.2 ha0 ta0 rfl rfl (fun _ h => List.mem_cons_of_mem _ (List.mem_append_right _ h)) 4 (by decide) rfl (hts _ (List.mem_of_getElem? (i := 3) rfl)) dX5_readPart_141 (fun v37 ev37 lv37 uv37 => ?_)
            have wv37 : v37 = (fi E33 a0 4) := ev37.symm.trans rfl
            have xv37 : v37.toInt = (fi E33 a0 4).toInt := by rw [wv37]
            refine lv_if_ne (tgt := 157) hx hb dX5_readPart_144 (by decide) (fun c38 => ?_) (fun c38 => ?_)
            · skip
              have tc38 := nu_ne c38
              have uc38 : (0 : Int32).toInt = 0 := rfl
              rw [← hQ]
              exact en_v Z S33 F33 ⟨(by rw [part_no (by unfold isDg; rw [← pk_10]; omega) (by have q := nn_; rw [tq_43a, fe_43a, show (fi E1 a0 3).toInt.toNat = (skI (tx E qt a0 2) (fi E a0 2).toInt.toNat (fi E a0 3).toInt.toNat) from by omega] at q; exact q)]; exact Did.bad (by decide) (by omega) (by omega)), (fun h => absurd h (by omega)), (fun k hk => ((p33_1 k (fw_sub (by decide) hk)).trans ((p1_1 k (fw_sub (by decide) hk)).trans ((fun k hk => rfl) k hk)))), (RdW.same hR ((G33 qe hqe (by rw [tqe]; rfl)).trans (G1 qe hqe (by rw [tqe]; rfl))) ((G33 qs hqs (by rw [tqs]; rfl)).trans (G1 qs hqs (by rw [tqs]; rfl))) ((p33_1 7 (by decide)).trans (p1_1 7 (by decide))) ((p33_1 8 (by decide)).trans (p1_1 8 (by decide))) ((p33_1 9 (by decide)).trans (p1_1 9 (by decide))))⟩ dX5_readPart_157
            · skip
              have tc38 := nu_eq c38
              have uc38 : (0 : Int32).toInt = 0 := rfl
              omega
        · skip
          have tc30 := nu_nle c30
          omega
      | some q39 =>
        obtain ⟨jq39, hq39, rfl, wq39, xq39, yq39⟩ := p23_1 q39 rfl
        refine W.eq (g2 := F0 m 46 l20 [.ref (G.2.2.1 jq39)]) rfl ?_
        refine lv_astore (lv' := [(6, .ref (G.2.2.1 jq39)), (5, .int v19), (4, .int v15), (3, .int v5), (0, .ref a0), (1, .int a1), (2, .int a2)]) hx hb dX5_readPart_46 hl21 (by decide) rfl (fun l40 hl41 => ?_)
        refine lv_iload hx hb dX5_readPart_48 (lv_at hl41 1 rfl) ?_
        obtain ⟨v42, ev42, tv42⟩ : ∃ v : Int32, (Int16.ofInt (9999)).toInt32 = v ∧ v.toInt = 9999 := ⟨_, rfl, by decide +kernel⟩
        refine lv_sipush hx hb dX5_readPart_50 ev42 ?_
        refine lv_icmp_le (tgt := 65) hx hb dX5_readPart_53 (by decide) (fun c43 => ?_) (fun c43 => ?_)
        · skip
          have tc43 := nu_le c43
          refine lv_iload hx hb dX5_readPart_65 (lv_at hl41 2 rfl) ?_
          refine lv_if_ne (tgt := 84) hx hb dX5_readPart_67 (by decide) (fun c44 => ?_) (fun c44 => ?_)
          · skip
            have tc44 := nu_ne c44
            have uc44 : (0 : Int32).toInt = 0 := rfl
            omega
          · skip
            have tc44 := nu_eq c44
            have uc44 : (0 : Int32).toInt = 0 := rfl
            refine lv_aload hx hb dX5_readPart_70 (lv_at hl41 0 rfl) ?_
            refine lv_ifnonnull (tgt := 84) hx hb dX5_readPart_72 (by decide) ?_
            refine lv_iload_n hx hb dX5_readPart_84 rfl (lv_at hl41 6 rfl) ?_
            obtain ⟨v45, ev45, tv45⟩ : ∃ v : Int32, (Int8.ofInt (8)).toInt32 = v ∧ v.toInt = 8 := ⟨_, rfl, by decide +kernel⟩
            refine lv_bipush hx hb dX5_readPart_85 ev45 ?_
            refine lv_icmp_ge (tgt := 99) hx hb dX5_readPart_87 (by decide) (fun c46 => ?_) (fun c46 => ?_)
            · skip
              have tc46 := nu_le c46
              refine lv_aload_n hx hb dX5_readPart_99 rfl (lv_at hl41 4 rfl) ?_
              obtain ⟨v47, ev47, tv47⟩ : ∃ v : Int32, Int32.ofInt (3) = v ∧ v.toInt = 3 := ⟨_, rfl, by decide +kernel⟩
              refine lv_iconst hx hb dX5_readPart_100 ev47 ?_
              refine lv_iload_n hx hb dX5_readPart_101 rfl (lv_at hl41 3 rfl) ?_
              have f0_102 : (fi E1 a0 4).toInt = 0 := by rw [(p1_1 4 (by decide))]; exact h4
              refine tc_vv Z.1 Z.2.2.2.1 Z.2.2.2.2.1 Z.2.2.2.2.2 S23.1 S23.2 ha0 ta0 rfl rfl (k_X5_fail_vr l D cy S23.2 ha0 ta0 v47 (by omega) (by omega) v5) (cwV 2 hts gX5_readPart_X5_fail rfl rfl rfl (by decide +kernel) ⟨Nat.le_of_ble_eq_true rfl, Nat.le_of_ble_eq_true rfl⟩) rfl hl41.1 rfl (Nat.le_of_ble_eq_true rfl) dX5_readPart_102 ⟨Nat.zero_le _, Nat.zero_le _⟩ (fun E48 H49 k50 W48 I48 G48 p48 => ?_)
              obtain ⟨p48_0, p48_1⟩ := p48
              have S48 : Now D TB cy (va_A (va_pl L E) sz) s L τ E48 H49 k50 := ⟨W48, I48⟩
              have F48 : Fr L τ (inW [(7, 0), (34, 0), (35, 0), (36, 0)]) E E48 := F1.trans (G48.mono (inW_mono (by decide)))
              have ff_102 : (fi E48 a0 4).toInt = v47.toInt ∧ (fi E48 a0 5).toInt = v5.toInt := by rcases p48_0 with q | q; omega; exact q.2
              refine lv_goto (tgt := 140) hx hb dX5_readPart_105 (by decide) ?_
              refine lv_aload_n hx hb dX5_readPart_140 rfl (lv_at hl41 4 rfl) ?_
              refine tr_geti Z.1 Z.2.2.2.1 S48.1 S48.2 ha0 ta0 rfl rfl (fun _ h => List.mem_cons_of_mem _ (List.mem_append_right _ h)) 4 (by decide) rfl (hts _ (List.mem_of_getElem? (i := 3) rfl)) dX5_readPart_141 (fun v52 ev52 lv52 uv52 => ?_)
              have wv52 : v52 = (fi E48 a0 4) := ev52.symm.trans rfl
              have xv52 : v52.toInt = (fi E48 a0 4).toInt := by rw [wv52]
              refine lv_if_ne (tgt := 157) hx hb dX5_readPart_144 (by decide) (fun c53 => ?_) (fun c53 => ?_)
              · skip
                have tc53 := nu_ne c53
                have uc53 : (0 : Int32).toInt = 0 := rfl
                rw [← hQ]
                exact en_v Z S48 F48 ⟨(by rw [part_nlong (by unfold isDg; rw [← pk_10]; omega) (by have q := xq39; rw [tq_43a, fe_43a, show (fi E1 a0 3).toInt.toNat = (skI (tx E qt a0 2) (fi E a0 2).toInt.toNat (fi E a0 3).toInt.toNat) from by omega] at q; omega) (by omega)]; exact Did.bad (by decide) (by omega) (by omega)), (fun h => absurd h (by omega)), (fun k hk => ((p48_1 k (fw_sub (by decide) hk)).trans ((p1_1 k (fw_sub (by decide) hk)).trans ((fun k hk => rfl) k hk)))), (RdW.same hR ((G48 qe hqe (by rw [tqe]; rfl)).trans (G1 qe hqe (by rw [tqe]; rfl))) ((G48 qs hqs (by rw [tqs]; rfl)).trans (G1 qs hqs (by rw [tqs]; rfl))) ((p48_1 7 (by decide)).trans (p1_1 7 (by decide))) ((p48_1 8 (by decide)).trans (p1_1 8 (by decide))) ((p48_1 9 (by decide)).trans (p1_1 9 (by decide))))⟩ dX5_readPart_157
              · skip
                have tc53 := nu_eq c53
                have uc53 : (0 : Int32).toInt = 0 := rfl
                omega
            · skip
              have tc46 := nu_nle c46
              refine lv_aload_n hx hb dX5_readPart_90 rfl (lv_at hl41 4 rfl) ?_
              refine tr_geti Z.1 Z.2.2.2.1 S23.1 S23.2 ha0 ta0 rfl rfl (fun _ h => List.mem_cons_of_mem _ (List.mem_append_right _ h)) 9 (by decide) rfl (hts _ (List.mem_of_getElem? (i := 2) rfl)) dX5_readPart_91 (fun v54 ev54 lv54 uv54 => ?_)
              have wv54 : v54 = (fi E a0 9) := ev54.symm.trans ((p1_1 9 (by decide)).trans rfl)
              have xv54 : v54.toInt = (fi E a0 9).toInt := by rw [wv54]
              obtain ⟨v55, ev55, tv55⟩ : ∃ v : Int32, (Int8.ofInt (64)).toInt32 = v ∧ v.toInt = 64 := ⟨_, rfl, by decide +kernel⟩
              refine lv_bipush hx hb dX5_readPart_94 ev55 ?_
              refine lv_icmp_lt (tgt := 108) hx hb dX5_readPart_96 (by decide) (fun c56 => ?_) (fun c56 => ?_)
              · skip
                have tc56 := nu_lt c56
                refine lv_iload hx hb dX5_readPart_108 (lv_at hl41 2 rfl) ?_
                refine lv_if_eq (tgt := 140) hx hb dX5_readPart_110 (by decide) (fun c57 => ?_) (fun c57 => ?_)
                · skip
                  have tc57 := nu_eq c57
                  have uc57 : (0 : Int32).toInt = 0 := rfl
                  refine lv_aload_n hx hb dX5_readPart_140 rfl (lv_at hl41 4 rfl) ?_
                  refine tr_geti Z.1 Z.2.2.2.1 S23.1 S23.2 ha0 ta0 rfl rfl (fun _ h => List.mem_cons_of_mem _ (List.mem_append_right _ h)) 4 (by decide) rfl (hts _ (List.mem_of_getElem? (i := 3) rfl)) dX5_readPart_141 (fun v58 ev58 lv58 uv58 => ?_)
                  have wv58 : v58 = (fi E a0 4) := ev58.symm.trans ((p1_1 4 (by decide)).trans rfl)
                  have xv58 : v58.toInt = (fi E a0 4).toInt := by rw [wv58]
                  refine lv_if_ne (tgt := 157) hx hb dX5_readPart_144 (by decide) (fun c59 => ?_) (fun c59 => ?_)
                  · skip
                    have tc59 := nu_ne c59
                    have uc59 : (0 : Int32).toInt = 0 := rfl
                    omega
                  · skip
                    have tc59 := nu_eq c59
                    have uc59 : (0 : Int32).toInt = 0 := rfl
                    refine lv_aload_n hx hb dX5_readPart_147 rfl (lv_at hl41 4 rfl) ?_
                    refine lv_iload_n hx hb dX5_readPart_148 rfl (lv_at hl41 5 rfl) ?_
                    refine lv_iload hx hb dX5_readPart_149 (lv_at hl41 1 rfl) ?_
                    refine lv_imul hx hb dX5_readPart_151 ?_
                    refine lv_topi (fun v60 ev60 => ?_)
                    have tv60 := nu_mulc (1) ev60 (by omega) (by have := fb_rng a1; omega) (by have := fb_rng a1; omega)
                    refine lv_aload hx hb dX5_readPart_152 (lv_at hl41 0 rfl) ?_
                    have fe_154a : fi E1 a0 2 = fi E a0 2 := (p1_1 2 (by decide))
                    have tq_154a : tx E1 qt a0 2 = (tx E qt a0 2) := tx_same (F1 qt hqt (by rw [tqt]; rfl)) fe_154a
                    have po_154a : (fi E1 a0 3).toInt = (((skI (tx E qt a0 2) (fi E a0 2).toInt.toNat (fi E a0 3).toInt.toNat) : Nat) : Int) := po_1
                    have f9_154 : (fi E1 a0 9).toInt = (fi E a0 9).toInt := by rw [(p1_1 9 (by decide))]
                    refine tc1_vv Z.1 Z.2.2.2.1 Z.2.2.2.2.1 Z.2.2.2.2.2 SZ S23.1 S23.2 ha0 ta0 rfl rfl (k_X5_keepPart_vrN l D cy S23.2 ha0 ta0 v60 hq39 hqe tqe hqs tqs hqt tqt (by rw [ev54]; omega) wq39 yq39 (RdW.same hR (G1 qe hqe (by rw [tqe]; rfl)) (G1 qs hqs (by rw [tqs]; rfl)) (p1_1 7 (by decide)) (p1_1 8 (by decide)) (p1_1 9 (by decide)))) (cwV 2 hts gX5_readPart_X5_keepPart rfl rfl rfl (by decide +kernel) ⟨Nat.le_of_ble_eq_true rfl, Nat.le_of_ble_eq_true rfl⟩) rfl hl41.1 rfl (Nat.le_of_ble_eq_true rfl) dX5_readPart_154 ⟨Nat.zero_le _, Nat.zero_le _⟩ (fun E61 H62 k63 W61 I61 G61 p61 => ?_)
                    obtain ⟨p61_0, p61_1, p61_2, p61_3⟩ := p61
                    have S61 : Now D TB cy (va_A (va_pl L E) sz) s L τ E61 H62 k63 := ⟨W61, I61⟩
                    have F61 : Fr L τ (inW [(7, 0), (34, 0), (35, 0), (36, 0)]) E E61 := F1.trans (G61.mono (inW_mono (by decide)))
                    have po_154 : (fi E61 a0 3).toInt = (((nameE (tx E qt a0 2) (fi E a0 2).toInt.toNat (skI (tx E qt a0 2) (fi E a0 2).toInt.toNat (fi E a0 3).toInt.toNat)) : Nat) : Int) := by have q := p61_0; rw [tq_154a, fe_154a, show (fi E1 a0 3).toInt.toNat = (skI (tx E qt a0 2) (fi E a0 2).toInt.toNat (fi E a0 3).toInt.toNat) from by omega] at q; exact q
                    have pt_154 : (fi E61 a0 9).toInt = (fi E a0 9).toInt + 1 := by have q := p61_1; omega
                    have f0_154 : (fi E61 a0 4).toInt = 0 := by rw [((p61_2 4 (by decide)).trans (p1_1 4 (by decide)))]; exact h4
                    rw [← hQ]
                    exact en_v Z S61 F61 ⟨(by rw [part_name (by unfold isDg; rw [← pk_10]; omega) (by have q := xq39; rw [tq_43a, fe_43a, show (fi E1 a0 3).toInt.toNat = (skI (tx E qt a0 2) (fi E a0 2).toInt.toNat (fi E a0 3).toInt.toNat) from by omega] at q; omega) (by omega)]; exact Did.ok f0_154 po_154), (fun _ => pt_154), (fun k hk => ((p61_2 k (fw_sub (by decide) hk)).trans ((p1_1 k (fw_sub (by decide) hk)).trans ((fun k hk => rfl) k hk)))), p61_3⟩ dX5_readPart_157
                · skip
                  have tc57 := nu_ne c57
                  have uc57 : (0 : Int32).toInt = 0 := rfl
                  omega
              · skip
                have tc56 := nu_nlt c56
                refine lv_aload_n hx hb dX5_readPart_99 rfl (lv_at hl41 4 rfl) ?_
                obtain ⟨v65, ev65, tv65⟩ : ∃ v : Int32, Int32.ofInt (3) = v ∧ v.toInt = 3 := ⟨_, rfl, by decide +kernel⟩
                refine lv_iconst hx hb dX5_readPart_100 ev65 ?_
                refine lv_iload_n hx hb dX5_readPart_101 rfl (lv_at hl41 3 rfl) ?_
                have f0_102 : (fi E1 a0 4).toInt = 0 := by rw [(p1_1 4 (by decide))]; exact h4
                refine tc_vv Z.1 Z.2.2.2.1 Z.2.2.2.2.1 Z.2.2.2.2.2 S23.1 S23.2 ha0 ta0 rfl rfl (k_X5_fail_vr l D cy S23.2 ha0 ta0 v65 (by omega) (by omega) v5) (cwV 2 hts gX5_readPart_X5_fail rfl rfl rfl (by decide +kernel) ⟨Nat.le_of_ble_eq_true rfl, Nat.le_of_ble_eq_true rfl⟩) rfl hl41.1 rfl (Nat.le_of_ble_eq_true rfl) dX5_readPart_102 ⟨Nat.zero_le _, Nat.zero_le _⟩ (fun E66 H67 k68 W66 I66 G66 p66 => ?_)
                obtain ⟨p66_0, p66_1⟩ := p66
                have S66 : Now D TB cy (va_A (va_pl L E) sz) s L τ E66 H67 k68 := ⟨W66, I66⟩
                have F66 : Fr L τ (inW [(7, 0), (34, 0), (35, 0), (36, 0)]) E E66 := F1.trans (G66.mono (inW_mono (by decide)))
                have ff_102 : (fi E66 a0 4).toInt = v65.toInt ∧ (fi E66 a0 5).toInt = v5.toInt := by rcases p66_0 with q | q; omega; exact q.2
                refine lv_goto (tgt := 140) hx hb dX5_readPart_105 (by decide) ?_
                refine lv_aload_n hx hb dX5_readPart_140 rfl (lv_at hl41 4 rfl) ?_
                refine tr_geti Z.1 Z.2.2.2.1 S66.1 S66.2 ha0 ta0 rfl rfl (fun _ h => List.mem_cons_of_mem _ (List.mem_append_right _ h)) 4 (by decide) rfl (hts _ (List.mem_of_getElem? (i := 3) rfl)) dX5_readPart_141 (fun v70 ev70 lv70 uv70 => ?_)
                have wv70 : v70 = (fi E66 a0 4) := ev70.symm.trans rfl
                have xv70 : v70.toInt = (fi E66 a0 4).toInt := by rw [wv70]
                refine lv_if_ne (tgt := 157) hx hb dX5_readPart_144 (by decide) (fun c71 => ?_) (fun c71 => ?_)
                · skip
                  have tc71 := nu_ne c71
                  have uc71 : (0 : Int32).toInt = 0 := rfl
                  rw [← hQ]
                  exact en_v Z S66 F66 ⟨(by rw [part_nlong (by unfold isDg; rw [← pk_10]; omega) (by have q := xq39; rw [tq_43a, fe_43a, show (fi E1 a0 3).toInt.toNat = (skI (tx E qt a0 2) (fi E a0 2).toInt.toNat (fi E a0 3).toInt.toNat) from by omega] at q; omega) (by omega)]; exact Did.bad (by decide) (by omega) (by omega)), (fun h => absurd h (by omega)), (fun k hk => ((p66_1 k (fw_sub (by decide) hk)).trans ((p1_1 k (fw_sub (by decide) hk)).trans ((fun k hk => rfl) k hk)))), (RdW.same hR ((G66 qe hqe (by rw [tqe]; rfl)).trans (G1 qe hqe (by rw [tqe]; rfl))) ((G66 qs hqs (by rw [tqs]; rfl)).trans (G1 qs hqs (by rw [tqs]; rfl))) ((p66_1 7 (by decide)).trans (p1_1 7 (by decide))) ((p66_1 8 (by decide)).trans (p1_1 8 (by decide))) ((p66_1 9 (by decide)).trans (p1_1 9 (by decide))))⟩ dX5_readPart_157
                · skip
                  have tc71 := nu_eq c71
                  have uc71 : (0 : Int32).toInt = 0 := rfl
                  omega
        · skip
          have tc43 := nu_nle c43
          omega
    · skip
      have tc22 := nu_ne c22
      have uc22 : (0 : Int32).toInt = 0 := rfl
      omega
  · skip
    have tc18 := nu_ne c18
    have uc18 : (0 : Int32).toInt = 0 := rfl
    refine lv_aload_n hx hb dX5_readPart_23 rfl (lv_at hl17 2 rfl) ?_
    have fe_24a : fi E1 a0 2 = fi E a0 2 := (p1_1 2 (by decide))
    have tq_24a : tx E1 qt a0 2 = (tx E qt a0 2) := tx_same (F1 qt hqt (by rw [tqt]; rfl)) fe_24a
    have po_24a : (fi E1 a0 3).toInt = (((skI (tx E qt a0 2) (fi E a0 2).toInt.toNat (fi E a0 3).toInt.toNat) : Nat) : Int) := po_1
    refine tc_vi Z.1 Z.2.2.2.1 Z.2.2.2.2.1 Z.2.2.2.2.2 S12.1 S12.2 ha0 ta0 rfl rfl (k_X5_readNumber_vr l D cy S12.2 ha0 ta0 hqt tqt) (cwV 0 hts gX5_readPart_X5_readNumber rfl rfl rfl (by decide +kernel) ⟨Nat.le_of_ble_eq_true rfl, Nat.le_of_ble_eq_true rfl⟩) rfl hl17.1 rfl (Nat.le_of_ble_eq_true rfl) dX5_readPart_24 ⟨Nat.zero_le _, Nat.zero_le _⟩ (fun v75 E72 H73 k74 W72 I72 G72 p72 => ?_)
    obtain ⟨p72_0, p72_1, p72_2, p72_3, p72_4⟩ := p72
    have S72 : Now D TB cy (va_A (va_pl L E) sz) s L τ E72 H73 k74 := ⟨W72, I72⟩
    have F72 : Fr L τ (inW [(7, 0), (34, 0), (35, 0), (36, 0)]) E E72 := F1.trans (G72.mono (inW_mono (by decide)))
    have po_24 : (fi E72 a0 3).toInt = (((dgI (tx E qt a0 2) (fi E a0 2).toInt.toNat (skI (tx E qt a0 2) (fi E a0 2).toInt.toNat (fi E a0 3).toInt.toNat)) : Nat) : Int) := by have q := p72_1; rw [tq_24a, fe_24a, show (fi E1 a0 3).toInt.toNat = (skI (tx E qt a0 2) (fi E a0 2).toInt.toNat (fi E a0 3).toInt.toNat) from by omega] at q; exact q
    have kp_24 := fi_rng (k := 3) S72.2 ha0 ta0 rfl rfl
    have dv_24 : v75.toInt = dvI (tx E qt a0 2) (fi E a0 2).toInt.toNat (skI (tx E qt a0 2) (fi E a0 2).toInt.toNat (fi E a0 3).toInt.toNat) 0 := by have q := p72_0; rw [tq_24a, fe_24a, show (fi E1 a0 3).toInt.toNat = (skI (tx E qt a0 2) (fi E a0 2).toInt.toNat (fi E a0 3).toInt.toNat) from by omega] at q; exact q
    refine lv_goto (tgt := 31) hx hb dX5_readPart_27 (by decide) ?_
    refine lv_istore (lv' := [(5, .int v75), (4, .int v15), (3, .int v5), (0, .ref a0), (1, .int a1), (2, .int a2)]) hx hb dX5_readPart_31 hl17 (by decide) rfl (fun l76 hl77 => ?_)
    refine lv_iload hx hb dX5_readPart_33 (lv_at hl77 1 rfl) ?_
    refine lv_if_eq (tgt := 42) hx hb dX5_readPart_35 (by decide) (fun c78 => ?_) (fun c78 => ?_)
    · skip
      have tc78 := nu_eq c78
      have uc78 : (0 : Int32).toInt = 0 := rfl
      omega
    · skip
      have tc78 := nu_ne c78
      have uc78 : (0 : Int32).toInt = 0 := rfl
      refine lv_null hx hb dX5_readPart_38 ?_
      refine lv_goto (tgt := 46) hx hb dX5_readPart_39 (by decide) ?_
      refine lv_astoreN (lv' := [(6, .null), (5, .int v75), (4, .int v15), (3, .int v5), (0, .ref a0), (1, .int a1), (2, .int a2)]) hx hb dX5_readPart_46 hl77 (by decide) rfl (fun l79 hl80 => ?_)
      refine lv_iload hx hb dX5_readPart_48 (lv_at hl80 1 rfl) ?_
      obtain ⟨v81, ev81, tv81⟩ : ∃ v : Int32, (Int16.ofInt (9999)).toInt32 = v ∧ v.toInt = 9999 := ⟨_, rfl, by decide +kernel⟩
      refine lv_sipush hx hb dX5_readPart_50 ev81 ?_
      refine lv_icmp_le (tgt := 65) hx hb dX5_readPart_53 (by decide) (fun c82 => ?_) (fun c82 => ?_)
      · skip
        have tc82 := nu_le c82
        refine lv_iload hx hb dX5_readPart_65 (lv_at hl80 2 rfl) ?_
        refine lv_if_ne (tgt := 84) hx hb dX5_readPart_67 (by decide) (fun c83 => ?_) (fun c83 => ?_)
        · skip
          have tc83 := nu_ne c83
          have uc83 : (0 : Int32).toInt = 0 := rfl
          refine lv_iload_n hx hb dX5_readPart_84 rfl (lv_at hl80 6 rfl) ?_
          obtain ⟨v84, ev84, tv84⟩ : ∃ v : Int32, (Int8.ofInt (8)).toInt32 = v ∧ v.toInt = 8 := ⟨_, rfl, by decide +kernel⟩
          refine lv_bipush hx hb dX5_readPart_85 ev84 ?_
          refine lv_icmp_ge (tgt := 99) hx hb dX5_readPart_87 (by decide) (fun c85 => ?_) (fun c85 => ?_)
          · skip
            have tc85 := nu_le c85
            refine lv_aload_n hx hb dX5_readPart_99 rfl (lv_at hl80 4 rfl) ?_
            obtain ⟨v86, ev86, tv86⟩ : ∃ v : Int32, Int32.ofInt (3) = v ∧ v.toInt = 3 := ⟨_, rfl, by decide +kernel⟩
            refine lv_iconst hx hb dX5_readPart_100 ev86 ?_
            refine lv_iload_n hx hb dX5_readPart_101 rfl (lv_at hl80 3 rfl) ?_
            have f0_102 : (fi E72 a0 4).toInt = 0 := by rw [((p72_4 4 (by decide)).trans (p1_1 4 (by decide)))]; exact h4
            refine tc_vv Z.1 Z.2.2.2.1 Z.2.2.2.2.1 Z.2.2.2.2.2 S72.1 S72.2 ha0 ta0 rfl rfl (k_X5_fail_vr l D cy S72.2 ha0 ta0 v86 (by omega) (by omega) v5) (cwV 2 hts gX5_readPart_X5_fail rfl rfl rfl (by decide +kernel) ⟨Nat.le_of_ble_eq_true rfl, Nat.le_of_ble_eq_true rfl⟩) rfl hl80.1 rfl (Nat.le_of_ble_eq_true rfl) dX5_readPart_102 ⟨Nat.zero_le _, Nat.zero_le _⟩ (fun E87 H88 k89 W87 I87 G87 p87 => ?_)
            obtain ⟨p87_0, p87_1⟩ := p87
            have S87 : Now D TB cy (va_A (va_pl L E) sz) s L τ E87 H88 k89 := ⟨W87, I87⟩
            have F87 : Fr L τ (inW [(7, 0), (34, 0), (35, 0), (36, 0)]) E E87 := F72.trans (G87.mono (inW_mono (by decide)))
            have ff_102 : (fi E87 a0 4).toInt = v86.toInt ∧ (fi E87 a0 5).toInt = v5.toInt := by rcases p87_0 with q | q; omega; exact q.2
            refine lv_goto (tgt := 140) hx hb dX5_readPart_105 (by decide) ?_
            refine lv_aload_n hx hb dX5_readPart_140 rfl (lv_at hl80 4 rfl) ?_
            refine tr_geti Z.1 Z.2.2.2.1 S87.1 S87.2 ha0 ta0 rfl rfl (fun _ h => List.mem_cons_of_mem _ (List.mem_append_right _ h)) 4 (by decide) rfl (hts _ (List.mem_of_getElem? (i := 3) rfl)) dX5_readPart_141 (fun v91 ev91 lv91 uv91 => ?_)
            have wv91 : v91 = (fi E87 a0 4) := ev91.symm.trans rfl
            have xv91 : v91.toInt = (fi E87 a0 4).toInt := by rw [wv91]
            refine lv_if_ne (tgt := 157) hx hb dX5_readPart_144 (by decide) (fun c92 => ?_) (fun c92 => ?_)
            · skip
              have tc92 := nu_ne c92
              have uc92 : (0 : Int32).toInt = 0 := rfl
              rw [← hQ]
              exact en_v Z S87 F87 ⟨(by rw [part_long (by unfold isDg; rw [← pk_10]; omega) (by rw [← dv_24]; omega) (by omega)]; exact Did.bad (by decide) (by omega) (by omega)), (fun h => absurd h (by omega)), (fun k hk => ((p87_1 k (fw_sub (by decide) hk)).trans ((p72_4 k (fw_sub (by decide) hk)).trans ((p1_1 k (fw_sub (by decide) hk)).trans ((fun k hk => rfl) k hk))))), (RdW.same hR ((G87 qe hqe (by rw [tqe]; rfl)).trans ((G72 qe hqe (by rw [tqe]; rfl)).trans (G1 qe hqe (by rw [tqe]; rfl)))) ((G87 qs hqs (by rw [tqs]; rfl)).trans ((G72 qs hqs (by rw [tqs]; rfl)).trans (G1 qs hqs (by rw [tqs]; rfl)))) ((p87_1 7 (by decide)).trans ((p72_4 7 (by decide)).trans (p1_1 7 (by decide)))) ((p87_1 8 (by decide)).trans ((p72_4 8 (by decide)).trans (p1_1 8 (by decide)))) ((p87_1 9 (by decide)).trans ((p72_4 9 (by decide)).trans (p1_1 9 (by decide)))))⟩ dX5_readPart_157
            · skip
              have tc92 := nu_eq c92
              have uc92 : (0 : Int32).toInt = 0 := rfl
              omega
          · skip
            have tc85 := nu_nle c85
            refine lv_aload_n hx hb dX5_readPart_90 rfl (lv_at hl80 4 rfl) ?_
            refine tr_geti Z.1 Z.2.2.2.1 S72.1 S72.2 ha0 ta0 rfl rfl (fun _ h => List.mem_cons_of_mem _ (List.mem_append_right _ h)) 9 (by decide) rfl (hts _ (List.mem_of_getElem? (i := 2) rfl)) dX5_readPart_91 (fun v93 ev93 lv93 uv93 => ?_)
            have wv93 : v93 = (fi E a0 9) := ev93.symm.trans ((p72_4 9 (by decide)).trans ((p1_1 9 (by decide)).trans rfl))
            have xv93 : v93.toInt = (fi E a0 9).toInt := by rw [wv93]
            obtain ⟨v94, ev94, tv94⟩ : ∃ v : Int32, (Int8.ofInt (64)).toInt32 = v ∧ v.toInt = 64 := ⟨_, rfl, by decide +kernel⟩
            refine lv_bipush hx hb dX5_readPart_94 ev94 ?_
            refine lv_icmp_lt (tgt := 108) hx hb dX5_readPart_96 (by decide) (fun c95 => ?_) (fun c95 => ?_)
            · skip
              have tc95 := nu_lt c95
              refine lv_iload hx hb dX5_readPart_108 (lv_at hl80 2 rfl) ?_
              refine lv_if_eq (tgt := 140) hx hb dX5_readPart_110 (by decide) (fun c96 => ?_) (fun c96 => ?_)
              · skip
                have tc96 := nu_eq c96
                have uc96 : (0 : Int32).toInt = 0 := rfl
                omega
              · skip
                have tc96 := nu_ne c96
                have uc96 : (0 : Int32).toInt = 0 := rfl
                refine lv_aload_n hx hb dX5_readPart_113 rfl (lv_at hl80 4 rfl) ?_
                have fe_114a : fi E72 a0 2 = fi E a0 2 := ((p72_4 2 (by decide)).trans (p1_1 2 (by decide)))
                have tq_114a : tx E72 qt a0 2 = (tx E qt a0 2) := tx_same (F72 qt hqt (by rw [tqt]; rfl)) fe_114a
                have po_114a : (fi E72 a0 3).toInt = (((dgI (tx E qt a0 2) (fi E a0 2).toInt.toNat (skI (tx E qt a0 2) (fi E a0 2).toInt.toNat (fi E a0 3).toInt.toNat)) : Nat) : Int) := po_24
                refine tc_vi Z.1 Z.2.2.2.1 Z.2.2.2.2.1 Z.2.2.2.2.2 S72.1 S72.2 ha0 ta0 rfl rfl (k_X5_readTimes_vr l D cy S72.2 ha0 ta0 hqt tqt) (cwV 0 hts gX5_readPart_X5_readTimes rfl rfl rfl (by decide +kernel) ⟨Nat.le_of_ble_eq_true rfl, Nat.le_of_ble_eq_true rfl⟩) rfl hl80.1 rfl (Nat.le_of_ble_eq_true rfl) dX5_readPart_114 ⟨Nat.zero_le _, Nat.zero_le _⟩ (fun v100 E97 H98 k99 W97 I97 G97 p97 => ?_)
                obtain ⟨p97_0, p97_1, p97_2, p97_3⟩ := p97
                have S97 : Now D TB cy (va_A (va_pl L E) sz) s L τ E97 H98 k99 := ⟨W97, I97⟩
                have F97 : Fr L τ (inW [(7, 0), (34, 0), (35, 0), (36, 0)]) E E97 := F72.trans (G97.mono (inW_mono (by decide)))
                have rt_114 : (v100.toInt = 1 ∧ pkI (tx E qt a0 2) (fi E a0 2).toInt.toNat (skI (tx E qt a0 2) (fi E a0 2).toInt.toNat (dgI (tx E qt a0 2) (fi E a0 2).toInt.toNat (skI (tx E qt a0 2) (fi E a0 2).toInt.toNat (fi E a0 3).toInt.toNat))) = 42 ∧ (fi E97 a0 3).toInt = ((skI (tx E qt a0 2) (fi E a0 2).toInt.toNat ((skI (tx E qt a0 2) (fi E a0 2).toInt.toNat (dgI (tx E qt a0 2) (fi E a0 2).toInt.toNat (skI (tx E qt a0 2) (fi E a0 2).toInt.toNat (fi E a0 3).toInt.toNat))) + 1) : Nat) : Int)) ∨ (v100.toInt = 0 ∧ pkI (tx E qt a0 2) (fi E a0 2).toInt.toNat (skI (tx E qt a0 2) (fi E a0 2).toInt.toNat (dgI (tx E qt a0 2) (fi E a0 2).toInt.toNat (skI (tx E qt a0 2) (fi E a0 2).toInt.toNat (fi E a0 3).toInt.toNat))) ≠ 42 ∧ (fi E97 a0 3).toInt = (((skI (tx E qt a0 2) (fi E a0 2).toInt.toNat (dgI (tx E qt a0 2) (fi E a0 2).toInt.toNat (skI (tx E qt a0 2) (fi E a0 2).toInt.toNat (fi E a0 3).toInt.toNat))) : Nat) : Int)) := by have q := p97_0; rw [tq_114a, fe_114a, show (fi E72 a0 3).toInt.toNat = (dgI (tx E qt a0 2) (fi E a0 2).toInt.toNat (skI (tx E qt a0 2) (fi E a0 2).toInt.toNat (fi E a0 3).toInt.toNat)) from by omega] at q; exact q
                have kp_114 := fi_rng (k := 3) S97.2 ha0 ta0 rfl rfl
                refine lv_if_eq (tgt := 140) hx hb dX5_readPart_117 (by decide) (fun c101 => ?_) (fun c101 => ?_)
                · skip
                  have tc101 := nu_eq c101
                  have uc101 : (0 : Int32).toInt = 0 := rfl
                  have rt_140 : pkI (tx E qt a0 2) (fi E a0 2).toInt.toNat (skI (tx E qt a0 2) (fi E a0 2).toInt.toNat (dgI (tx E qt a0 2) (fi E a0 2).toInt.toNat (skI (tx E qt a0 2) (fi E a0 2).toInt.toNat (fi E a0 3).toInt.toNat))) ≠ 42 ∧ (fi E97 a0 3).toInt = (((skI (tx E qt a0 2) (fi E a0 2).toInt.toNat (dgI (tx E qt a0 2) (fi E a0 2).toInt.toNat (skI (tx E qt a0 2) (fi E a0 2).toInt.toNat (fi E a0 3).toInt.toNat))) : Nat) : Int) := by rcases rt_114 with q | q; omega; exact q.2
                  refine lv_aload_n hx hb dX5_readPart_140 rfl (lv_at hl80 4 rfl) ?_
                  refine tr_geti Z.1 Z.2.2.2.1 S97.1 S97.2 ha0 ta0 rfl rfl (fun _ h => List.mem_cons_of_mem _ (List.mem_append_right _ h)) 4 (by decide) rfl (hts _ (List.mem_of_getElem? (i := 3) rfl)) dX5_readPart_141 (fun v102 ev102 lv102 uv102 => ?_)
                  have wv102 : v102 = (fi E a0 4) := ev102.symm.trans ((p97_3 4 (by decide)).trans ((p72_4 4 (by decide)).trans ((p1_1 4 (by decide)).trans rfl)))
                  have xv102 : v102.toInt = (fi E a0 4).toInt := by rw [wv102]
                  refine lv_if_ne (tgt := 157) hx hb dX5_readPart_144 (by decide) (fun c103 => ?_) (fun c103 => ?_)
                  · skip
                    have tc103 := nu_ne c103
                    have uc103 : (0 : Int32).toInt = 0 := rfl
                    omega
                  · skip
                    have tc103 := nu_eq c103
                    have uc103 : (0 : Int32).toInt = 0 := rfl
                    refine lv_aload_n hx hb dX5_readPart_147 rfl (lv_at hl80 4 rfl) ?_
                    refine lv_iload_n hx hb dX5_readPart_148 rfl (lv_at hl80 5 rfl) ?_
                    refine lv_iload hx hb dX5_readPart_149 (lv_at hl80 1 rfl) ?_
                    refine lv_imul hx hb dX5_readPart_151 ?_
                    refine lv_topi (fun v104 ev104 => ?_)
                    refine lv_aloadN hx hb dX5_readPart_152 (lv_at hl80 0 rfl) ?_
                    have fe_154a : fi E97 a0 2 = fi E a0 2 := ((p97_3 2 (by decide)).trans ((p72_4 2 (by decide)).trans (p1_1 2 (by decide))))
                    have tq_154a : tx E97 qt a0 2 = (tx E qt a0 2) := tx_same (F97 qt hqt (by rw [tqt]; rfl)) fe_154a
                    have po_154a : (fi E97 a0 3).toInt = (((skI (tx E qt a0 2) (fi E a0 2).toInt.toNat (dgI (tx E qt a0 2) (fi E a0 2).toInt.toNat (skI (tx E qt a0 2) (fi E a0 2).toInt.toNat (fi E a0 3).toInt.toNat))) : Nat) : Int) := rt_140.2
                    have f9_154 : (fi E97 a0 9).toInt = (fi E a0 9).toInt := by rw [((p97_3 9 (by decide)).trans ((p72_4 9 (by decide)).trans (p1_1 9 (by decide))))]
                    refine tc_vv Z.1 Z.2.2.2.1 Z.2.2.2.2.1 Z.2.2.2.2.2 S97.1 S97.2 ha0 ta0 rfl rfl (k_X5_keepPart_vrnull l D cy S97.2 ha0 ta0 v104 hqe tqe hqs tqs (by rw [((p97_3 9 (by decide)).trans ev93)]; omega) (RdW.same hR ((G97 qe hqe (by rw [tqe]; rfl)).trans ((G72 qe hqe (by rw [tqe]; rfl)).trans (G1 qe hqe (by rw [tqe]; rfl)))) ((G97 qs hqs (by rw [tqs]; rfl)).trans ((G72 qs hqs (by rw [tqs]; rfl)).trans (G1 qs hqs (by rw [tqs]; rfl)))) ((p97_3 7 (by decide)).trans ((p72_4 7 (by decide)).trans (p1_1 7 (by decide)))) ((p97_3 8 (by decide)).trans ((p72_4 8 (by decide)).trans (p1_1 8 (by decide)))) ((p97_3 9 (by decide)).trans ((p72_4 9 (by decide)).trans (p1_1 9 (by decide)))))) (cwV 2 hts gX5_readPart_X5_keepPart rfl rfl rfl (by decide +kernel) ⟨Nat.le_of_ble_eq_true rfl, Nat.le_of_ble_eq_true rfl⟩) rfl hl80.1 rfl (Nat.le_of_ble_eq_true rfl) dX5_readPart_154 ⟨Nat.zero_le _, Nat.zero_le _⟩ (fun E105 H106 k107 W105 I105 G105 p105 => ?_)
                    obtain ⟨p105_0, p105_1, p105_2, p105_3⟩ := p105
                    have S105 : Now D TB cy (va_A (va_pl L E) sz) s L τ E105 H106 k107 := ⟨W105, I105⟩
                    have F105 : Fr L τ (inW [(7, 0), (34, 0), (35, 0), (36, 0)]) E E105 := F97.trans (G105.mono (inW_mono (by decide)))
                    have po_154 : (fi E105 a0 3).toInt = (((skI (tx E qt a0 2) (fi E a0 2).toInt.toNat (dgI (tx E qt a0 2) (fi E a0 2).toInt.toNat (skI (tx E qt a0 2) (fi E a0 2).toInt.toNat (fi E a0 3).toInt.toNat))) : Nat) : Int) := by have q := p105_0; omega
                    have pt_154 : (fi E105 a0 9).toInt = (fi E a0 9).toInt + 1 := by have q := p105_1; omega
                    have f0_154 : (fi E105 a0 4).toInt = 0 := by rw [((p105_2 4 (by decide)).trans ((p97_3 4 (by decide)).trans ((p72_4 4 (by decide)).trans (p1_1 4 (by decide)))))]; exact h4
                    rw [← hQ]
                    exact en_v Z S105 F105 ⟨(by rw [part_num (by unfold isDg; rw [← pk_10]; omega) (by rw [← dv_24]; omega) (by omega), times_no rt_140.1]; exact Did.ok f0_154 po_154), (fun _ => pt_154), (fun k hk => ((p105_2 k (fw_sub (by decide) hk)).trans ((p97_3 k (fw_sub (by decide) hk)).trans ((p72_4 k (fw_sub (by decide) hk)).trans ((p1_1 k (fw_sub (by decide) hk)).trans ((fun k hk => rfl) k hk)))))), p105_3⟩ dX5_readPart_157
                · skip
                  have tc101 := nu_ne c101
                  have uc101 : (0 : Int32).toInt = 0 := rfl
                  have rt_120 : pkI (tx E qt a0 2) (fi E a0 2).toInt.toNat (skI (tx E qt a0 2) (fi E a0 2).toInt.toNat (dgI (tx E qt a0 2) (fi E a0 2).toInt.toNat (skI (tx E qt a0 2) (fi E a0 2).toInt.toNat (fi E a0 3).toInt.toNat))) = 42 ∧ (fi E97 a0 3).toInt = (((skI (tx E qt a0 2) (fi E a0 2).toInt.toNat ((skI (tx E qt a0 2) (fi E a0 2).toInt.toNat (dgI (tx E qt a0 2) (fi E a0 2).toInt.toNat (skI (tx E qt a0 2) (fi E a0 2).toInt.toNat (fi E a0 3).toInt.toNat))) + 1)) : Nat) : Int) := by rcases rt_114 with q | q; exact q.2; omega
                  refine lv_aload_n hx hb dX5_readPart_120 rfl (lv_at hl80 4 rfl) ?_
                  have fe_121a : fi E97 a0 2 = fi E a0 2 := ((p97_3 2 (by decide)).trans ((p72_4 2 (by decide)).trans (p1_1 2 (by decide))))
                  have tq_121a : tx E97 qt a0 2 = (tx E qt a0 2) := tx_same (F97 qt hqt (by rw [tqt]; rfl)) fe_121a
                  have po_121a : (fi E97 a0 3).toInt = (((skI (tx E qt a0 2) (fi E a0 2).toInt.toNat ((skI (tx E qt a0 2) (fi E a0 2).toInt.toNat (dgI (tx E qt a0 2) (fi E a0 2).toInt.toNat (skI (tx E qt a0 2) (fi E a0 2).toInt.toNat (fi E a0 3).toInt.toNat))) + 1)) : Nat) : Int) := rt_120.2
                  refine tc1_vq Z.1 Z.2.2.2.1 Z.2.2.2.2.1 Z.2.2.2.2.2 SZ S97.1 S97.2 ha0 ta0 rfl rfl (k_X5_nameHere_vr l D cy S97.2 ha0 ta0 hqt tqt) (cwV 0 hts gX5_readPart_X5_nameHere rfl rfl rfl (by decide +kernel) ⟨Nat.le_of_ble_eq_true rfl, Nat.le_of_ble_eq_true rfl⟩) rfl hl80.1 rfl (Nat.le_of_ble_eq_true rfl) dX5_readPart_121 ⟨Nat.zero_le _, Nat.zero_le _⟩ (fun v112 E109 H110 k111 W109 I109 G109 p109 => ?_)
                  obtain ⟨q109, p109_0, p109_1⟩ := p109
                  have q109 := q109.symm
                  subst q109
                  have S109 : Now D TB cy (va_A (va_pl L E) sz) s L τ E97 H110 k111 := ⟨W109, I109⟩
                  cases v112 with
                  | none =>
                    have nn_ := p109_0 rfl
                    refine W.eq (g2 := F0 m 124 l79 [.null]) rfl ?_
                    refine lv_astoreN (lv' := [(6, .null), (5, .int v75), (4, .int v15), (3, .int v5), (0, .ref a0), (1, .int a1), (2, .int a2)]) hx hb dX5_readPart_124 hl80 (by decide) rfl (fun l113 hl114 => ?_)
                    refine lv_aloadN hx hb dX5_readPart_126 (lv_at hl114 0 rfl) ?_
                    refine lv_ifnonnullN hx hb dX5_readPart_128 ?_
                    refine lv_aload_n hx hb dX5_readPart_131 rfl (lv_at hl114 4 rfl) ?_
                    obtain ⟨v115, ev115, tv115⟩ : ∃ v : Int32, Int32.ofInt (1) = v ∧ v.toInt = 1 := ⟨_, rfl, by decide +kernel⟩
                    refine lv_iconst hx hb dX5_readPart_132 ev115 ?_
                    refine lv_aload_n hx hb dX5_readPart_133 rfl (lv_at hl114 4 rfl) ?_
                    refine tr_geti Z.1 Z.2.2.2.1 S109.1 S109.2 ha0 ta0 rfl rfl (fun _ h => List.mem_cons_of_mem _ (List.mem_append_right _ h)) 3 (by decide) rfl (hts _ (List.mem_of_getElem? (i := 1) rfl)) dX5_readPart_134 (fun v116 ev116 lv116 uv116 => ?_)
                    have wv116 : v116 = (fi E97 a0 3) := ev116.symm.trans rfl
                    have xv116 : v116.toInt = (fi E97 a0 3).toInt := by rw [wv116]
                    have f0_137 : (fi E97 a0 4).toInt = 0 := by rw [((p97_3 4 (by decide)).trans ((p72_4 4 (by decide)).trans (p1_1 4 (by decide))))]; exact h4
                    refine tc_vv Z.1 Z.2.2.2.1 Z.2.2.2.2.1 Z.2.2.2.2.2 S109.1 S109.2 ha0 ta0 rfl rfl (k_X5_fail_vr l D cy S109.2 ha0 ta0 v115 (by omega) (by omega) v116) (cwV 2 hts gX5_readPart_X5_fail rfl rfl rfl (by decide +kernel) ⟨Nat.le_of_ble_eq_true rfl, Nat.le_of_ble_eq_true rfl⟩) rfl hl114.1 rfl (Nat.le_of_ble_eq_true rfl) dX5_readPart_137 ⟨Nat.zero_le _, Nat.zero_le _⟩ (fun E117 H118 k119 W117 I117 G117 p117 => ?_)
                    obtain ⟨p117_0, p117_1⟩ := p117
                    have S117 : Now D TB cy (va_A (va_pl L E) sz) s L τ E117 H118 k119 := ⟨W117, I117⟩
                    have F117 : Fr L τ (inW [(7, 0), (34, 0), (35, 0), (36, 0)]) E E117 := F97.trans (G117.mono (inW_mono (by decide)))
                    have ff_137 : (fi E117 a0 4).toInt = v115.toInt ∧ (fi E117 a0 5).toInt = v116.toInt := by rcases p117_0 with q | q; omega; exact q.2
                    refine lv_aload_n hx hb dX5_readPart_140 rfl (lv_at hl114 4 rfl) ?_
                    refine tr_geti Z.1 Z.2.2.2.1 S117.1 S117.2 ha0 ta0 rfl rfl (fun _ h => List.mem_cons_of_mem _ (List.mem_append_right _ h)) 4 (by decide) rfl (hts _ (List.mem_of_getElem? (i := 3) rfl)) dX5_readPart_141 (fun v121 ev121 lv121 uv121 => ?_)
                    have wv121 : v121 = (fi E117 a0 4) := ev121.symm.trans rfl
                    have xv121 : v121.toInt = (fi E117 a0 4).toInt := by rw [wv121]
                    refine lv_if_ne (tgt := 157) hx hb dX5_readPart_144 (by decide) (fun c122 => ?_) (fun c122 => ?_)
                    · skip
                      have tc122 := nu_ne c122
                      have uc122 : (0 : Int32).toInt = 0 := rfl
                      rw [← hQ]
                      exact en_v Z S117 F117 ⟨(by rw [part_num (by unfold isDg; rw [← pk_10]; omega) (by rw [← dv_24]; omega) (by omega), times_bad rt_120.1 (by have q := nn_; rw [tq_121a, fe_121a, show (fi E97 a0 3).toInt.toNat = (skI (tx E qt a0 2) (fi E a0 2).toInt.toNat ((skI (tx E qt a0 2) (fi E a0 2).toInt.toNat (dgI (tx E qt a0 2) (fi E a0 2).toInt.toNat (skI (tx E qt a0 2) (fi E a0 2).toInt.toNat (fi E a0 3).toInt.toNat))) + 1)) from by omega] at q; exact q)]; exact Did.bad (by decide) (by omega) (by omega)), (fun h => absurd h (by omega)), (fun k hk => ((p117_1 k (fw_sub (by decide) hk)).trans ((p97_3 k (fw_sub (by decide) hk)).trans ((p72_4 k (fw_sub (by decide) hk)).trans ((p1_1 k (fw_sub (by decide) hk)).trans ((fun k hk => rfl) k hk)))))), (RdW.same hR ((G117 qe hqe (by rw [tqe]; rfl)).trans ((G97 qe hqe (by rw [tqe]; rfl)).trans ((G72 qe hqe (by rw [tqe]; rfl)).trans (G1 qe hqe (by rw [tqe]; rfl))))) ((G117 qs hqs (by rw [tqs]; rfl)).trans ((G97 qs hqs (by rw [tqs]; rfl)).trans ((G72 qs hqs (by rw [tqs]; rfl)).trans (G1 qs hqs (by rw [tqs]; rfl))))) ((p117_1 7 (by decide)).trans ((p97_3 7 (by decide)).trans ((p72_4 7 (by decide)).trans (p1_1 7 (by decide))))) ((p117_1 8 (by decide)).trans ((p97_3 8 (by decide)).trans ((p72_4 8 (by decide)).trans (p1_1 8 (by decide))))) ((p117_1 9 (by decide)).trans ((p97_3 9 (by decide)).trans ((p72_4 9 (by decide)).trans (p1_1 9 (by decide))))))⟩ dX5_readPart_157
                    · skip
                      have tc122 := nu_eq c122
                      have uc122 : (0 : Int32).toInt = 0 := rfl
                      omega
                  | some q123 =>
                    obtain ⟨jq123, hq123, rfl, wq123, xq123, yq123⟩ := p109_1 q123 rfl
                    refine W.eq (g2 := F0 m 124 l79 [.ref (G.2.2.1 jq123)]) rfl ?_
                    refine lv_astore (lv' := [(6, .ref (G.2.2.1 jq123)), (5, .int v75), (4, .int v15), (3, .int v5), (0, .ref a0), (1, .int a1), (2, .int a2)]) hx hb dX5_readPart_124 hl80 (by decide) rfl (fun l124 hl125 => ?_)
                    refine lv_aload hx hb dX5_readPart_126 (lv_at hl125 0 rfl) ?_
                    refine lv_ifnonnull (tgt := 140) hx hb dX5_readPart_128 (by decide) ?_
                    refine lv_aload_n hx hb dX5_readPart_140 rfl (lv_at hl125 4 rfl) ?_
                    refine tr_geti Z.1 Z.2.2.2.1 S109.1 S109.2 ha0 ta0 rfl rfl (fun _ h => List.mem_cons_of_mem _ (List.mem_append_right _ h)) 4 (by decide) rfl (hts _ (List.mem_of_getElem? (i := 3) rfl)) dX5_readPart_141 (fun v126 ev126 lv126 uv126 => ?_)
                    have wv126 : v126 = (fi E a0 4) := ev126.symm.trans ((p97_3 4 (by decide)).trans ((p72_4 4 (by decide)).trans ((p1_1 4 (by decide)).trans rfl)))
                    have xv126 : v126.toInt = (fi E a0 4).toInt := by rw [wv126]
                    refine lv_if_ne (tgt := 157) hx hb dX5_readPart_144 (by decide) (fun c127 => ?_) (fun c127 => ?_)
                    · skip
                      have tc127 := nu_ne c127
                      have uc127 : (0 : Int32).toInt = 0 := rfl
                      omega
                    · skip
                      have tc127 := nu_eq c127
                      have uc127 : (0 : Int32).toInt = 0 := rfl
                      refine lv_aload_n hx hb dX5_readPart_147 rfl (lv_at hl125 4 rfl) ?_
                      refine lv_iload_n hx hb dX5_readPart_148 rfl (lv_at hl125 5 rfl) ?_
                      refine lv_iload hx hb dX5_readPart_149 (lv_at hl125 1 rfl) ?_
                      refine lv_imul hx hb dX5_readPart_151 ?_
                      refine lv_topi (fun v128 ev128 => ?_)
                      refine lv_aload hx hb dX5_readPart_152 (lv_at hl125 0 rfl) ?_
                      have fe_154a : fi E97 a0 2 = fi E a0 2 := ((p97_3 2 (by decide)).trans ((p72_4 2 (by decide)).trans (p1_1 2 (by decide))))
                      have tq_154a : tx E97 qt a0 2 = (tx E qt a0 2) := tx_same (F97 qt hqt (by rw [tqt]; rfl)) fe_154a
                      have po_154a : (fi E97 a0 3).toInt = (((skI (tx E qt a0 2) (fi E a0 2).toInt.toNat ((skI (tx E qt a0 2) (fi E a0 2).toInt.toNat (dgI (tx E qt a0 2) (fi E a0 2).toInt.toNat (skI (tx E qt a0 2) (fi E a0 2).toInt.toNat (fi E a0 3).toInt.toNat))) + 1)) : Nat) : Int) := rt_120.2
                      have f9_154 : (fi E97 a0 9).toInt = (fi E a0 9).toInt := by rw [((p97_3 9 (by decide)).trans ((p72_4 9 (by decide)).trans (p1_1 9 (by decide))))]
                      refine tc1_vv Z.1 Z.2.2.2.1 Z.2.2.2.2.1 Z.2.2.2.2.2 SZ S109.1 S109.2 ha0 ta0 rfl rfl (k_X5_keepPart_vrN l D cy S109.2 ha0 ta0 v128 hq123 hqe tqe hqs tqs hqt tqt (by rw [((p97_3 9 (by decide)).trans ev93)]; omega) wq123 yq123 (RdW.same hR ((G97 qe hqe (by rw [tqe]; rfl)).trans ((G72 qe hqe (by rw [tqe]; rfl)).trans (G1 qe hqe (by rw [tqe]; rfl)))) ((G97 qs hqs (by rw [tqs]; rfl)).trans ((G72 qs hqs (by rw [tqs]; rfl)).trans (G1 qs hqs (by rw [tqs]; rfl)))) ((p97_3 7 (by decide)).trans ((p72_4 7 (by decide)).trans (p1_1 7 (by decide)))) ((p97_3 8 (by decide)).trans ((p72_4 8 (by decide)).trans (p1_1 8 (by decide)))) ((p97_3 9 (by decide)).trans ((p72_4 9 (by decide)).trans (p1_1 9 (by decide)))))) (cwV 2 hts gX5_readPart_X5_keepPart rfl rfl rfl (by decide +kernel) ⟨Nat.le_of_ble_eq_true rfl, Nat.le_of_ble_eq_true rfl⟩) rfl hl125.1 rfl (Nat.le_of_ble_eq_true rfl) dX5_readPart_154 ⟨Nat.zero_le _, Nat.zero_le _⟩ (fun E129 H130 k131 W129 I129 G129 p129 => ?_)
                      obtain ⟨p129_0, p129_1, p129_2, p129_3⟩ := p129
                      have S129 : Now D TB cy (va_A (va_pl L E) sz) s L τ E129 H130 k131 := ⟨W129, I129⟩
                      have F129 : Fr L τ (inW [(7, 0), (34, 0), (35, 0), (36, 0)]) E E129 := F97.trans (G129.mono (inW_mono (by decide)))
                      have po_154 : (fi E129 a0 3).toInt = (((nameE (tx E qt a0 2) (fi E a0 2).toInt.toNat (skI (tx E qt a0 2) (fi E a0 2).toInt.toNat ((skI (tx E qt a0 2) (fi E a0 2).toInt.toNat (dgI (tx E qt a0 2) (fi E a0 2).toInt.toNat (skI (tx E qt a0 2) (fi E a0 2).toInt.toNat (fi E a0 3).toInt.toNat))) + 1))) : Nat) : Int) := by have q := p129_0; rw [tq_154a, fe_154a, show (fi E97 a0 3).toInt.toNat = (skI (tx E qt a0 2) (fi E a0 2).toInt.toNat ((skI (tx E qt a0 2) (fi E a0 2).toInt.toNat (dgI (tx E qt a0 2) (fi E a0 2).toInt.toNat (skI (tx E qt a0 2) (fi E a0 2).toInt.toNat (fi E a0 3).toInt.toNat))) + 1)) from by omega] at q; exact q
                      have pt_154 : (fi E129 a0 9).toInt = (fi E a0 9).toInt + 1 := by have q := p129_1; omega
                      have f0_154 : (fi E129 a0 4).toInt = 0 := by rw [((p129_2 4 (by decide)).trans ((p97_3 4 (by decide)).trans ((p72_4 4 (by decide)).trans (p1_1 4 (by decide)))))]; exact h4
                      rw [← hQ]
                      exact en_v Z S129 F129 ⟨(by rw [part_num (by unfold isDg; rw [← pk_10]; omega) (by rw [← dv_24]; omega) (by omega), times_ok rt_120.1 (by have q := xq123; rw [tq_121a, fe_121a, show (fi E97 a0 3).toInt.toNat = (skI (tx E qt a0 2) (fi E a0 2).toInt.toNat ((skI (tx E qt a0 2) (fi E a0 2).toInt.toNat (dgI (tx E qt a0 2) (fi E a0 2).toInt.toNat (skI (tx E qt a0 2) (fi E a0 2).toInt.toNat (fi E a0 3).toInt.toNat))) + 1)) from by omega] at q; omega)]; exact Did.ok f0_154 po_154), (fun _ => pt_154), (fun k hk => ((p129_2 k (fw_sub (by decide) hk)).trans ((p97_3 k (fw_sub (by decide) hk)).trans ((p72_4 k (fw_sub (by decide) hk)).trans ((p1_1 k (fw_sub (by decide) hk)).trans ((fun k hk => rfl) k hk)))))), p129_3⟩ dX5_readPart_157
            · skip
              have tc95 := nu_nlt c95
              refine lv_aload_n hx hb dX5_readPart_99 rfl (lv_at hl80 4 rfl) ?_
              obtain ⟨v133, ev133, tv133⟩ : ∃ v : Int32, Int32.ofInt (3) = v ∧ v.toInt = 3 := ⟨_, rfl, by decide +kernel⟩
              refine lv_iconst hx hb dX5_readPart_100 ev133 ?_
              refine lv_iload_n hx hb dX5_readPart_101 rfl (lv_at hl80 3 rfl) ?_
              have f0_102 : (fi E72 a0 4).toInt = 0 := by rw [((p72_4 4 (by decide)).trans (p1_1 4 (by decide)))]; exact h4
              refine tc_vv Z.1 Z.2.2.2.1 Z.2.2.2.2.1 Z.2.2.2.2.2 S72.1 S72.2 ha0 ta0 rfl rfl (k_X5_fail_vr l D cy S72.2 ha0 ta0 v133 (by omega) (by omega) v5) (cwV 2 hts gX5_readPart_X5_fail rfl rfl rfl (by decide +kernel) ⟨Nat.le_of_ble_eq_true rfl, Nat.le_of_ble_eq_true rfl⟩) rfl hl80.1 rfl (Nat.le_of_ble_eq_true rfl) dX5_readPart_102 ⟨Nat.zero_le _, Nat.zero_le _⟩ (fun E134 H135 k136 W134 I134 G134 p134 => ?_)
              obtain ⟨p134_0, p134_1⟩ := p134
              have S134 : Now D TB cy (va_A (va_pl L E) sz) s L τ E134 H135 k136 := ⟨W134, I134⟩
              have F134 : Fr L τ (inW [(7, 0), (34, 0), (35, 0), (36, 0)]) E E134 := F72.trans (G134.mono (inW_mono (by decide)))
              have ff_102 : (fi E134 a0 4).toInt = v133.toInt ∧ (fi E134 a0 5).toInt = v5.toInt := by rcases p134_0 with q | q; omega; exact q.2
              refine lv_goto (tgt := 140) hx hb dX5_readPart_105 (by decide) ?_
              refine lv_aload_n hx hb dX5_readPart_140 rfl (lv_at hl80 4 rfl) ?_
              refine tr_geti Z.1 Z.2.2.2.1 S134.1 S134.2 ha0 ta0 rfl rfl (fun _ h => List.mem_cons_of_mem _ (List.mem_append_right _ h)) 4 (by decide) rfl (hts _ (List.mem_of_getElem? (i := 3) rfl)) dX5_readPart_141 (fun v138 ev138 lv138 uv138 => ?_)
              have wv138 : v138 = (fi E134 a0 4) := ev138.symm.trans rfl
              have xv138 : v138.toInt = (fi E134 a0 4).toInt := by rw [wv138]
              refine lv_if_ne (tgt := 157) hx hb dX5_readPart_144 (by decide) (fun c139 => ?_) (fun c139 => ?_)
              · skip
                have tc139 := nu_ne c139
                have uc139 : (0 : Int32).toInt = 0 := rfl
                rw [← hQ]
                exact en_v Z S134 F134 ⟨(by rw [part_long (by unfold isDg; rw [← pk_10]; omega) (by rw [← dv_24]; omega) (by omega)]; exact Did.bad (by decide) (by omega) (by omega)), (fun h => absurd h (by omega)), (fun k hk => ((p134_1 k (fw_sub (by decide) hk)).trans ((p72_4 k (fw_sub (by decide) hk)).trans ((p1_1 k (fw_sub (by decide) hk)).trans ((fun k hk => rfl) k hk))))), (RdW.same hR ((G134 qe hqe (by rw [tqe]; rfl)).trans ((G72 qe hqe (by rw [tqe]; rfl)).trans (G1 qe hqe (by rw [tqe]; rfl)))) ((G134 qs hqs (by rw [tqs]; rfl)).trans ((G72 qs hqs (by rw [tqs]; rfl)).trans (G1 qs hqs (by rw [tqs]; rfl)))) ((p134_1 7 (by decide)).trans ((p72_4 7 (by decide)).trans (p1_1 7 (by decide)))) ((p134_1 8 (by decide)).trans ((p72_4 8 (by decide)).trans (p1_1 8 (by decide)))) ((p134_1 9 (by decide)).trans ((p72_4 9 (by decide)).trans (p1_1 9 (by decide)))))⟩ dX5_readPart_157
              · skip
                have tc139 := nu_eq c139
                have uc139 : (0 : Int32).toInt = 0 := rfl
                omega
        · skip
          have tc83 := nu_eq c83
          have uc83 : (0 : Int32).toInt = 0 := rfl
          omega
      · skip
        have tc82 := nu_nle c82
        refine lv_aload_n hx hb dX5_readPart_56 rfl (lv_at hl80 4 rfl) ?_
        obtain ⟨v140, ev140, tv140⟩ : ∃ v : Int32, Int32.ofInt (2) = v ∧ v.toInt = 2 := ⟨_, rfl, by decide +kernel⟩
        refine lv_iconst hx hb dX5_readPart_57 ev140 ?_
        refine lv_iload_n hx hb dX5_readPart_58 rfl (lv_at hl80 3 rfl) ?_
        have f0_59 : (fi E72 a0 4).toInt = 0 := by rw [((p72_4 4 (by decide)).trans (p1_1 4 (by decide)))]; exact h4
        refine tc_vv Z.1 Z.2.2.2.1 Z.2.2.2.2.1 Z.2.2.2.2.2 S72.1 S72.2 ha0 ta0 rfl rfl (k_X5_fail_vr l D cy S72.2 ha0 ta0 v140 (by omega) (by omega) v5) (cwV 2 hts gX5_readPart_X5_fail rfl rfl rfl (by decide +kernel) ⟨Nat.le_of_ble_eq_true rfl, Nat.le_of_ble_eq_true rfl⟩) rfl hl80.1 rfl (Nat.le_of_ble_eq_true rfl) dX5_readPart_59 ⟨Nat.zero_le _, Nat.zero_le _⟩ (fun E141 H142 k143 W141 I141 G141 p141 => ?_)
        obtain ⟨p141_0, p141_1⟩ := p141
        have S141 : Now D TB cy (va_A (va_pl L E) sz) s L τ E141 H142 k143 := ⟨W141, I141⟩
        have F141 : Fr L τ (inW [(7, 0), (34, 0), (35, 0), (36, 0)]) E E141 := F72.trans (G141.mono (inW_mono (by decide)))
        have ff_59 : (fi E141 a0 4).toInt = v140.toInt ∧ (fi E141 a0 5).toInt = v5.toInt := by rcases p141_0 with q | q; omega; exact q.2
        refine lv_goto (tgt := 140) hx hb dX5_readPart_62 (by decide) ?_
        refine lv_aload_n hx hb dX5_readPart_140 rfl (lv_at hl80 4 rfl) ?_
        refine tr_geti Z.1 Z.2.2.2.1 S141.1 S141.2 ha0 ta0 rfl rfl (fun _ h => List.mem_cons_of_mem _ (List.mem_append_right _ h)) 4 (by decide) rfl (hts _ (List.mem_of_getElem? (i := 3) rfl)) dX5_readPart_141 (fun v145 ev145 lv145 uv145 => ?_)
        have wv145 : v145 = (fi E141 a0 4) := ev145.symm.trans rfl
        have xv145 : v145.toInt = (fi E141 a0 4).toInt := by rw [wv145]
        refine lv_if_ne (tgt := 157) hx hb dX5_readPart_144 (by decide) (fun c146 => ?_) (fun c146 => ?_)
        · skip
          have tc146 := nu_ne c146
          have uc146 : (0 : Int32).toInt = 0 := rfl
          rw [← hQ]
          exact en_v Z S141 F141 ⟨(by rw [part_big (by unfold isDg; rw [← pk_10]; omega) (by rw [← dv_24]; omega)]; exact Did.bad (by decide) (by omega) (by omega)), (fun h => absurd h (by omega)), (fun k hk => ((p141_1 k (fw_sub (by decide) hk)).trans ((p72_4 k (fw_sub (by decide) hk)).trans ((p1_1 k (fw_sub (by decide) hk)).trans ((fun k hk => rfl) k hk))))), (RdW.same hR ((G141 qe hqe (by rw [tqe]; rfl)).trans ((G72 qe hqe (by rw [tqe]; rfl)).trans (G1 qe hqe (by rw [tqe]; rfl)))) ((G141 qs hqs (by rw [tqs]; rfl)).trans ((G72 qs hqs (by rw [tqs]; rfl)).trans (G1 qs hqs (by rw [tqs]; rfl)))) ((p141_1 7 (by decide)).trans ((p72_4 7 (by decide)).trans (p1_1 7 (by decide)))) ((p141_1 8 (by decide)).trans ((p72_4 8 (by decide)).trans (p1_1 8 (by decide)))) ((p141_1 9 (by decide)).trans ((p72_4 9 (by decide)).trans (p1_1 9 (by decide)))))⟩ dX5_readPart_157
        · skip
          have tc146 := nu_eq c146
          have uc146 : (0 : Int32).toInt = 0 := rfl
          omega

set_option maxHeartbeats 4000000 in
set_option maxRecDepth 100000 in
theorem k_X5_readRel_vr (l : Launch) (D : va_G) (cy : Nat → ClassId) {L : List Nat} {τ : Nat → Ro} {E : Ec} (hI : Inv TB cy L τ E) {a0 : Nat} (ha0 : a0 ∈ L) (ta0 : τ a0 = (7, 0)) {qt : Nat} (hqt : qt ∈ L) (tqt : τ qt = (32, 0)) (h4 : (fi E a0 4).toInt = 0) : CtI l yX5_readRel wsX5_readRel { frames := 1, cells := 0, slots := 0, locals := 22 } D TB cy L τ E [.ref a0] (inW [(7, 0)]) (fun r E' => (Did (fi E' a0 4).toInt (fi E' a0 5).toInt (fi E' a0 3).toInt (relI (tx E qt a0 2) (fi E a0 2).toInt.toNat (fi E a0 3).toInt.toNat)) ∧ -1 ≤ r.toInt ∧ r.toInt ≤ 1 ∧ (∀ k : Nat, k ∉ ([3, 4, 5] : List Nat) → fi E' a0 k = fi E a0 k)) := by
  intro sz
  refine sta (cc := cX5_readRel) (maxL := 2) hI (by decide) rfl (Nat.le_of_ble_eq_true rfl) (fun p e s m args below meth c ls hsz Z S0 hl => ?_)
  have hx := Z.1.1
  have hb := Z.1.2.1
  have hts := Z.1.2.2.2.2
  have F0_ : Fr L τ (inW [(7, 0)]) E E := Fr.refl
  have hl : lv_has ls 2 [(0, .ref a0)] := hl
  generalize hQ : MQ below _ args s 0 0 _ = QQ
  have kz_a0_4 := fi_rng (k := 4) hI ha0 ta0 rfl rfl
  have kz_a0_5 := fi_rng (k := 5) hI ha0 ta0 rfl rfl
  have kz_a0_3 := fi_rng (k := 3) hI ha0 ta0 rfl rfl
  have kz_a0_2 := fi_rng (k := 2) hI ha0 ta0 rfl rfl
  have hTr : ∀ p : Nat, -128 ≤ (tx E qt a0 2) p ∧ (tx E qt a0 2) p ≤ 127 := tx_rng hI hqt tqt rfl (by omega)
  refine lv_aload_n hx hb dX5_readRel_0 rfl (lv_at hl 0 rfl) ?_
  have fe_1a : fi E a0 2 = fi E a0 2 := rfl
  have tq_1a : (tx E qt a0 2) = (tx E qt a0 2) := rfl
  have pz_1a : (fi E a0 3).toInt = (((fi E a0 3).toInt.toNat : Nat) : Int) := by omega
  have po_1a : (fi E a0 3).toInt = (((fi E a0 3).toInt.toNat : Nat) : Int) := pz_1a
  refine tc_vi Z.1 Z.2.2.2.1 Z.2.2.2.2.1 Z.2.2.2.2.2 S0.1 S0.2 ha0 ta0 rfl rfl (k_X5_peek_vr l D cy S0.2 ha0 ta0 hqt tqt) (cwV 0 hts gX5_readRel_X5_peek rfl rfl rfl (by decide +kernel) ⟨Nat.le_of_ble_eq_true rfl, Nat.le_of_ble_eq_true rfl⟩) rfl hl.1 rfl (Nat.le_of_ble_eq_true rfl) dX5_readRel_1 ⟨Nat.zero_le _, Nat.zero_le _⟩ (fun v4 E1 H2 k3 W1 I1 G1 p1 => ?_)
  obtain ⟨q1, p1_0, p1_1, p1_2, p1_3⟩ := p1
  have q1 := q1.symm
  subst q1
  have S1 : Now D TB cy (va_A (va_pl L E) sz) s L τ E H2 k3 := ⟨W1, I1⟩
  have pk_1 : v4.toInt = pkI (tx E qt a0 2) (fi E a0 2).toInt.toNat (fi E a0 3).toInt.toNat := by have q := p1_1; skip; exact q
  refine lv_istore_n (lv' := [(1, .int v4), (0, .ref a0)]) hx hb dX5_readRel_4 rfl hl (by decide) rfl (fun l5 hl6 => ?_)
  refine lv_iload_n hx hb dX5_readRel_5 rfl (lv_at hl6 0 rfl) ?_
  obtain ⟨v7, ev7, tv7⟩ : ∃ v : Int32, (Int8.ofInt (60)).toInt32 = v ∧ v.toInt = 60 := ⟨_, rfl, by decide +kernel⟩
  refine lv_bipush hx hb dX5_readRel_6 ev7 ?_
  refine lv_icmp_eq (tgt := 28) hx hb dX5_readRel_8 (by decide) (fun c8 => ?_) (fun c8 => ?_)
  · skip
    have tc8 := nu_eq c8
    refine lv_aload_n hx hb dX5_readRel_28 rfl (lv_at hl6 1 rfl) ?_
    refine lv_dup hx hb dX5_readRel_29 rfl ?_
    refine tr_geti Z.1 Z.2.2.2.1 S1.1 S1.2 ha0 ta0 rfl rfl (fun _ h => List.mem_cons_of_mem _ (List.mem_append_right _ h)) 3 (by decide) rfl (hts _ (List.mem_of_getElem? (i := 1) rfl)) dX5_readRel_30 (fun v9 ev9 lv9 uv9 => ?_)
    have wv9 : v9 = (fi E a0 3) := ev9.symm.trans rfl
    have xv9 : v9.toInt = (fi E a0 3).toInt := by rw [wv9]
    obtain ⟨v10, ev10, tv10⟩ : ∃ v : Int32, Int32.ofInt (1) = v ∧ v.toInt = 1 := ⟨_, rfl, by decide +kernel⟩
    refine lv_iconst hx hb dX5_readRel_33 ev10 ?_
    refine lv_iadd hx hb dX5_readRel_34 ?_
    refine lv_topi (fun v11 ev11 => ?_)
    have tv11 := nu_add ev11 (by omega) (by omega)
    refine tr_puti Z.1 Z.2.2.2.1 S1.1 S1.2 ha0 ta0 rfl rfl (fun _ h => List.mem_cons_of_mem _ (List.mem_append_right _ h)) tyX5_ok nmX5 3 (by decide) rfl rfl rfl (hts _ (List.mem_of_getElem? (i := 1) rfl)) dX5_readRel_35 (by omega) (by omega) (fun E12 H13 k14 W12 I12 P12 => ?_)
    have S12 : Now D TB cy (va_A (va_pl L E) sz) s L τ E12 H13 k14 := ⟨W12, I12⟩
    have F12 : Fr L τ (inW [(7, 0)]) E E12 := Fr.put F0_ P12 ta0 rfl
    have po_35 : (fi E12 a0 3).toInt = ((((fi E a0 3).toInt.toNat + 1) : Nat) : Int) := by have q : (fi E a0 3).toInt = (((fi E a0 3).toInt.toNat : Nat) : Int) := (by omega); rw [(fi_at P12)]; omega
    refine lv_aload_n hx hb dX5_readRel_38 rfl (lv_at hl6 1 rfl) ?_
    have fe_39a : fi E12 a0 2 = fi E a0 2 := (fi_put (k := 2) P12 (Or.inr (by decide)))
    have tq_39a : tx E12 qt a0 2 = (tx E qt a0 2) := tx_same (F12 qt hqt (by rw [tqt]; rfl)) fe_39a
    have po_39a : (fi E12 a0 3).toInt = ((((fi E a0 3).toInt.toNat + 1) : Nat) : Int) := po_35
    refine tc_vi Z.1 Z.2.2.2.1 Z.2.2.2.2.1 Z.2.2.2.2.2 S12.1 S12.2 ha0 ta0 rfl rfl (k_X5_peek_vr l D cy S12.2 ha0 ta0 hqt tqt) (cwV 0 hts gX5_readRel_X5_peek rfl rfl rfl (by decide +kernel) ⟨Nat.le_of_ble_eq_true rfl, Nat.le_of_ble_eq_true rfl⟩) rfl hl6.1 rfl (Nat.le_of_ble_eq_true rfl) dX5_readRel_39 ⟨Nat.zero_le _, Nat.zero_le _⟩ (fun v18 E15 H16 k17 W15 I15 G15 p15 => ?_)
    obtain ⟨q15, p15_0, p15_1, p15_2, p15_3⟩ := p15
    have q15 := q15.symm
    subst q15
    have S15 : Now D TB cy (va_A (va_pl L E) sz) s L τ E12 H16 k17 := ⟨W15, I15⟩
    try rw [(fi_at P12)] at p15_0
    have pk_39 : v18.toInt = pkI (tx E qt a0 2) (fi E a0 2).toInt.toNat ((fi E a0 3).toInt.toNat + 1) := by have q := p15_1; rw [tq_39a, fe_39a, show (fi E12 a0 3).toInt.toNat = ((fi E a0 3).toInt.toNat + 1) from by omega] at q; exact q
    obtain ⟨v19, ev19, tv19⟩ : ∃ v : Int32, (Int8.ofInt (61)).toInt32 = v ∧ v.toInt = 61 := ⟨_, rfl, by decide +kernel⟩
    refine lv_bipush hx hb dX5_readRel_42 ev19 ?_
    refine lv_icmp_eq (tgt := 58) hx hb dX5_readRel_44 (by decide) (fun c20 => ?_) (fun c20 => ?_)
    · skip
      have tc20 := nu_eq c20
      refine lv_aload_n hx hb dX5_readRel_58 rfl (lv_at hl6 1 rfl) ?_
      refine lv_dup hx hb dX5_readRel_59 rfl ?_
      refine tr_geti Z.1 Z.2.2.2.1 S15.1 S15.2 ha0 ta0 rfl rfl (fun _ h => List.mem_cons_of_mem _ (List.mem_append_right _ h)) 3 (by decide) rfl (hts _ (List.mem_of_getElem? (i := 1) rfl)) dX5_readRel_60 (fun v21 ev21 lv21 uv21 => ?_)
      have wv21 : v21 = v11 := ev21.symm.trans (fi_at P12)
      have xv21 : v21.toInt = v11.toInt := by rw [wv21]
      obtain ⟨v22, ev22, tv22⟩ : ∃ v : Int32, Int32.ofInt (1) = v ∧ v.toInt = 1 := ⟨_, rfl, by decide +kernel⟩
      refine lv_iconst hx hb dX5_readRel_63 ev22 ?_
      refine lv_iadd hx hb dX5_readRel_64 ?_
      refine lv_topi (fun v23 ev23 => ?_)
      have tv23 := nu_add ev23 (by omega) (by omega)
      refine tr_puti Z.1 Z.2.2.2.1 S15.1 S15.2 ha0 ta0 rfl rfl (fun _ h => List.mem_cons_of_mem _ (List.mem_append_right _ h)) tyX5_ok nmX5 3 (by decide) rfl rfl rfl (hts _ (List.mem_of_getElem? (i := 1) rfl)) dX5_readRel_65 (by omega) (by omega) (fun E24 H25 k26 W24 I24 P24 => ?_)
      have S24 : Now D TB cy (va_A (va_pl L E) sz) s L τ E24 H25 k26 := ⟨W24, I24⟩
      have F24 : Fr L τ (inW [(7, 0)]) E E24 := Fr.put F12 P24 ta0 rfl
      have po_65 : (fi E24 a0 3).toInt = (((((fi E a0 3).toInt.toNat + 1) + 1) : Nat) : Int) := by have q : (fi E12 a0 3).toInt = ((((fi E a0 3).toInt.toNat + 1) : Nat) : Int) := po_35; rw [(fi_at P24)]; omega
      refine lv_iload_n hx hb dX5_readRel_68 rfl (lv_at hl6 0 rfl) ?_
      obtain ⟨v27, ev27, tv27⟩ : ∃ v : Int32, (Int8.ofInt (60)).toInt32 = v ∧ v.toInt = 60 := ⟨_, rfl, by decide +kernel⟩
      refine lv_bipush hx hb dX5_readRel_69 ev27 ?_
      refine lv_icmp_ne (tgt := 78) hx hb dX5_readRel_71 (by decide) (fun c28 => ?_) (fun c28 => ?_)
      · skip
        have tc28 := nu_ne c28
        omega
      · skip
        have tc28 := nu_eq c28
        obtain ⟨v29, ev29, tv29⟩ : ∃ v : Int32, Int32.ofInt (1) = v ∧ v.toInt = 1 := ⟨_, rfl, by decide +kernel⟩
        refine lv_iconst hx hb dX5_readRel_74 ev29 ?_
        refine lv_goto (tgt := 79) hx hb dX5_readRel_75 (by decide) ?_
        rw [← hQ]
        exact en_i Z S24 F24 ⟨(by rw [rel_ok (by rw [← pk_1]; omega) (by rw [← pk_39]; omega)]; exact Did.ok (by rw [((fi_put (k := 4) P24 (Or.inr (by decide))).trans (fi_put (k := 4) P12 (Or.inr (by decide))))]; exact h4) (by have q := po_65; omega)), (by omega), (by omega), (fun k hk => ((fi_put P24 (Or.inr (fw_ne (by decide) hk))).trans ((fi_put P12 (Or.inr (fw_ne (by decide) hk))).trans ((fun k hk => rfl) k hk))))⟩ dX5_readRel_79
    · skip
      have tc20 := nu_ne c20
      refine lv_aload_n hx hb dX5_readRel_47 rfl (lv_at hl6 1 rfl) ?_
      obtain ⟨v30, ev30, tv30⟩ : ∃ v : Int32, Int32.ofInt (1) = v ∧ v.toInt = 1 := ⟨_, rfl, by decide +kernel⟩
      refine lv_iconst hx hb dX5_readRel_48 ev30 ?_
      refine lv_aload_n hx hb dX5_readRel_49 rfl (lv_at hl6 1 rfl) ?_
      refine tr_geti Z.1 Z.2.2.2.1 S15.1 S15.2 ha0 ta0 rfl rfl (fun _ h => List.mem_cons_of_mem _ (List.mem_append_right _ h)) 3 (by decide) rfl (hts _ (List.mem_of_getElem? (i := 1) rfl)) dX5_readRel_50 (fun v31 ev31 lv31 uv31 => ?_)
      have wv31 : v31 = v11 := ev31.symm.trans (fi_at P12)
      have xv31 : v31.toInt = v11.toInt := by rw [wv31]
      have f0_53 : (fi E12 a0 4).toInt = 0 := by rw [(fi_put (k := 4) P12 (Or.inr (by decide)))]; exact h4
      refine tc_vv Z.1 Z.2.2.2.1 Z.2.2.2.2.1 Z.2.2.2.2.2 S15.1 S15.2 ha0 ta0 rfl rfl (k_X5_fail_vr l D cy S15.2 ha0 ta0 v30 (by omega) (by omega) v31) (cwV 2 hts gX5_readRel_X5_fail rfl rfl rfl (by decide +kernel) ⟨Nat.le_of_ble_eq_true rfl, Nat.le_of_ble_eq_true rfl⟩) rfl hl6.1 rfl (Nat.le_of_ble_eq_true rfl) dX5_readRel_53 ⟨Nat.zero_le _, Nat.zero_le _⟩ (fun E32 H33 k34 W32 I32 G32 p32 => ?_)
      obtain ⟨p32_0, p32_1⟩ := p32
      have S32 : Now D TB cy (va_A (va_pl L E) sz) s L τ E32 H33 k34 := ⟨W32, I32⟩
      have F32 : Fr L τ (inW [(7, 0)]) E E32 := F12.trans (G32.mono (inW_mono (by decide)))
      have ff_53 : (fi E32 a0 4).toInt = v30.toInt ∧ (fi E32 a0 5).toInt = v31.toInt := by rcases p32_0 with q | q; omega; exact q.2
      obtain ⟨v36, ev36, tv36⟩ : ∃ v : Int32, Int32.ofInt (0) = v ∧ v.toInt = 0 := ⟨_, rfl, by decide +kernel⟩
      refine lv_iconst hx hb dX5_readRel_56 ev36 ?_
      rw [← hQ]
      exact en_i Z S32 F32 ⟨(by rw [rel_bad (by rw [← pk_1]; omega) (by rw [← pk_39]; omega)]; exact Did.bad (by decide) (by omega) (by omega)), (by omega), (by omega), (fun k hk => ((p32_1 k (fw_sub (by decide) hk)).trans ((fi_put P12 (Or.inr (fw_ne (by decide) hk))).trans ((fun k hk => rfl) k hk))))⟩ dX5_readRel_57
  · skip
    have tc8 := nu_ne c8
    refine lv_iload_n hx hb dX5_readRel_11 rfl (lv_at hl6 0 rfl) ?_
    obtain ⟨v37, ev37, tv37⟩ : ∃ v : Int32, (Int8.ofInt (62)).toInt32 = v ∧ v.toInt = 62 := ⟨_, rfl, by decide +kernel⟩
    refine lv_bipush hx hb dX5_readRel_12 ev37 ?_
    refine lv_icmp_eq (tgt := 28) hx hb dX5_readRel_14 (by decide) (fun c38 => ?_) (fun c38 => ?_)
    · skip
      have tc38 := nu_eq c38
      refine lv_aload_n hx hb dX5_readRel_28 rfl (lv_at hl6 1 rfl) ?_
      refine lv_dup hx hb dX5_readRel_29 rfl ?_
      refine tr_geti Z.1 Z.2.2.2.1 S1.1 S1.2 ha0 ta0 rfl rfl (fun _ h => List.mem_cons_of_mem _ (List.mem_append_right _ h)) 3 (by decide) rfl (hts _ (List.mem_of_getElem? (i := 1) rfl)) dX5_readRel_30 (fun v39 ev39 lv39 uv39 => ?_)
      have wv39 : v39 = (fi E a0 3) := ev39.symm.trans rfl
      have xv39 : v39.toInt = (fi E a0 3).toInt := by rw [wv39]
      obtain ⟨v40, ev40, tv40⟩ : ∃ v : Int32, Int32.ofInt (1) = v ∧ v.toInt = 1 := ⟨_, rfl, by decide +kernel⟩
      refine lv_iconst hx hb dX5_readRel_33 ev40 ?_
      refine lv_iadd hx hb dX5_readRel_34 ?_
      refine lv_topi (fun v41 ev41 => ?_)
      have tv41 := nu_add ev41 (by omega) (by omega)
      refine tr_puti Z.1 Z.2.2.2.1 S1.1 S1.2 ha0 ta0 rfl rfl (fun _ h => List.mem_cons_of_mem _ (List.mem_append_right _ h)) tyX5_ok nmX5 3 (by decide) rfl rfl rfl (hts _ (List.mem_of_getElem? (i := 1) rfl)) dX5_readRel_35 (by omega) (by omega) (fun E42 H43 k44 W42 I42 P42 => ?_)
      have S42 : Now D TB cy (va_A (va_pl L E) sz) s L τ E42 H43 k44 := ⟨W42, I42⟩
      have F42 : Fr L τ (inW [(7, 0)]) E E42 := Fr.put F0_ P42 ta0 rfl
      have po_35 : (fi E42 a0 3).toInt = ((((fi E a0 3).toInt.toNat + 1) : Nat) : Int) := by have q : (fi E a0 3).toInt = (((fi E a0 3).toInt.toNat : Nat) : Int) := (by omega); rw [(fi_at P42)]; omega
      refine lv_aload_n hx hb dX5_readRel_38 rfl (lv_at hl6 1 rfl) ?_
      have fe_39a : fi E42 a0 2 = fi E a0 2 := (fi_put (k := 2) P42 (Or.inr (by decide)))
      have tq_39a : tx E42 qt a0 2 = (tx E qt a0 2) := tx_same (F42 qt hqt (by rw [tqt]; rfl)) fe_39a
      have po_39a : (fi E42 a0 3).toInt = ((((fi E a0 3).toInt.toNat + 1) : Nat) : Int) := po_35
      refine tc_vi Z.1 Z.2.2.2.1 Z.2.2.2.2.1 Z.2.2.2.2.2 S42.1 S42.2 ha0 ta0 rfl rfl (k_X5_peek_vr l D cy S42.2 ha0 ta0 hqt tqt) (cwV 0 hts gX5_readRel_X5_peek rfl rfl rfl (by decide +kernel) ⟨Nat.le_of_ble_eq_true rfl, Nat.le_of_ble_eq_true rfl⟩) rfl hl6.1 rfl (Nat.le_of_ble_eq_true rfl) dX5_readRel_39 ⟨Nat.zero_le _, Nat.zero_le _⟩ (fun v48 E45 H46 k47 W45 I45 G45 p45 => ?_)
      obtain ⟨q45, p45_0, p45_1, p45_2, p45_3⟩ := p45
      have q45 := q45.symm
      subst q45
      have S45 : Now D TB cy (va_A (va_pl L E) sz) s L τ E42 H46 k47 := ⟨W45, I45⟩
      try rw [(fi_at P42)] at p45_0
      have pk_39 : v48.toInt = pkI (tx E qt a0 2) (fi E a0 2).toInt.toNat ((fi E a0 3).toInt.toNat + 1) := by have q := p45_1; rw [tq_39a, fe_39a, show (fi E42 a0 3).toInt.toNat = ((fi E a0 3).toInt.toNat + 1) from by omega] at q; exact q
      obtain ⟨v49, ev49, tv49⟩ : ∃ v : Int32, (Int8.ofInt (61)).toInt32 = v ∧ v.toInt = 61 := ⟨_, rfl, by decide +kernel⟩
      refine lv_bipush hx hb dX5_readRel_42 ev49 ?_
      refine lv_icmp_eq (tgt := 58) hx hb dX5_readRel_44 (by decide) (fun c50 => ?_) (fun c50 => ?_)
      · skip
        have tc50 := nu_eq c50
        refine lv_aload_n hx hb dX5_readRel_58 rfl (lv_at hl6 1 rfl) ?_
        refine lv_dup hx hb dX5_readRel_59 rfl ?_
        refine tr_geti Z.1 Z.2.2.2.1 S45.1 S45.2 ha0 ta0 rfl rfl (fun _ h => List.mem_cons_of_mem _ (List.mem_append_right _ h)) 3 (by decide) rfl (hts _ (List.mem_of_getElem? (i := 1) rfl)) dX5_readRel_60 (fun v51 ev51 lv51 uv51 => ?_)
        have wv51 : v51 = v41 := ev51.symm.trans (fi_at P42)
        have xv51 : v51.toInt = v41.toInt := by rw [wv51]
        obtain ⟨v52, ev52, tv52⟩ : ∃ v : Int32, Int32.ofInt (1) = v ∧ v.toInt = 1 := ⟨_, rfl, by decide +kernel⟩
        refine lv_iconst hx hb dX5_readRel_63 ev52 ?_
        refine lv_iadd hx hb dX5_readRel_64 ?_
        refine lv_topi (fun v53 ev53 => ?_)
        have tv53 := nu_add ev53 (by omega) (by omega)
        refine tr_puti Z.1 Z.2.2.2.1 S45.1 S45.2 ha0 ta0 rfl rfl (fun _ h => List.mem_cons_of_mem _ (List.mem_append_right _ h)) tyX5_ok nmX5 3 (by decide) rfl rfl rfl (hts _ (List.mem_of_getElem? (i := 1) rfl)) dX5_readRel_65 (by omega) (by omega) (fun E54 H55 k56 W54 I54 P54 => ?_)
        have S54 : Now D TB cy (va_A (va_pl L E) sz) s L τ E54 H55 k56 := ⟨W54, I54⟩
        have F54 : Fr L τ (inW [(7, 0)]) E E54 := Fr.put F42 P54 ta0 rfl
        have po_65 : (fi E54 a0 3).toInt = (((((fi E a0 3).toInt.toNat + 1) + 1) : Nat) : Int) := by have q : (fi E42 a0 3).toInt = ((((fi E a0 3).toInt.toNat + 1) : Nat) : Int) := po_35; rw [(fi_at P54)]; omega
        refine lv_iload_n hx hb dX5_readRel_68 rfl (lv_at hl6 0 rfl) ?_
        obtain ⟨v57, ev57, tv57⟩ : ∃ v : Int32, (Int8.ofInt (60)).toInt32 = v ∧ v.toInt = 60 := ⟨_, rfl, by decide +kernel⟩
        refine lv_bipush hx hb dX5_readRel_69 ev57 ?_
        refine lv_icmp_ne (tgt := 78) hx hb dX5_readRel_71 (by decide) (fun c58 => ?_) (fun c58 => ?_)
        · skip
          have tc58 := nu_ne c58
          obtain ⟨v59, ev59, tv59⟩ : ∃ v : Int32, Int32.ofInt (-1) = v ∧ v.toInt = -1 := ⟨_, rfl, by decide +kernel⟩
          refine lv_iconst hx hb dX5_readRel_78 ev59 ?_
          rw [← hQ]
          exact en_i Z S54 F54 ⟨(by rw [rel_ok (by rw [← pk_1]; omega) (by rw [← pk_39]; omega)]; exact Did.ok (by rw [((fi_put (k := 4) P54 (Or.inr (by decide))).trans (fi_put (k := 4) P42 (Or.inr (by decide))))]; exact h4) (by have q := po_65; omega)), (by omega), (by omega), (fun k hk => ((fi_put P54 (Or.inr (fw_ne (by decide) hk))).trans ((fi_put P42 (Or.inr (fw_ne (by decide) hk))).trans ((fun k hk => rfl) k hk))))⟩ dX5_readRel_79
        · skip
          have tc58 := nu_eq c58
          omega
      · skip
        have tc50 := nu_ne c50
        refine lv_aload_n hx hb dX5_readRel_47 rfl (lv_at hl6 1 rfl) ?_
        obtain ⟨v60, ev60, tv60⟩ : ∃ v : Int32, Int32.ofInt (1) = v ∧ v.toInt = 1 := ⟨_, rfl, by decide +kernel⟩
        refine lv_iconst hx hb dX5_readRel_48 ev60 ?_
        refine lv_aload_n hx hb dX5_readRel_49 rfl (lv_at hl6 1 rfl) ?_
        refine tr_geti Z.1 Z.2.2.2.1 S45.1 S45.2 ha0 ta0 rfl rfl (fun _ h => List.mem_cons_of_mem _ (List.mem_append_right _ h)) 3 (by decide) rfl (hts _ (List.mem_of_getElem? (i := 1) rfl)) dX5_readRel_50 (fun v61 ev61 lv61 uv61 => ?_)
        have wv61 : v61 = v41 := ev61.symm.trans (fi_at P42)
        have xv61 : v61.toInt = v41.toInt := by rw [wv61]
        have f0_53 : (fi E42 a0 4).toInt = 0 := by rw [(fi_put (k := 4) P42 (Or.inr (by decide)))]; exact h4
        refine tc_vv Z.1 Z.2.2.2.1 Z.2.2.2.2.1 Z.2.2.2.2.2 S45.1 S45.2 ha0 ta0 rfl rfl (k_X5_fail_vr l D cy S45.2 ha0 ta0 v60 (by omega) (by omega) v61) (cwV 2 hts gX5_readRel_X5_fail rfl rfl rfl (by decide +kernel) ⟨Nat.le_of_ble_eq_true rfl, Nat.le_of_ble_eq_true rfl⟩) rfl hl6.1 rfl (Nat.le_of_ble_eq_true rfl) dX5_readRel_53 ⟨Nat.zero_le _, Nat.zero_le _⟩ (fun E62 H63 k64 W62 I62 G62 p62 => ?_)
        obtain ⟨p62_0, p62_1⟩ := p62
        have S62 : Now D TB cy (va_A (va_pl L E) sz) s L τ E62 H63 k64 := ⟨W62, I62⟩
        have F62 : Fr L τ (inW [(7, 0)]) E E62 := F42.trans (G62.mono (inW_mono (by decide)))
        have ff_53 : (fi E62 a0 4).toInt = v60.toInt ∧ (fi E62 a0 5).toInt = v61.toInt := by rcases p62_0 with q | q; omega; exact q.2
        obtain ⟨v66, ev66, tv66⟩ : ∃ v : Int32, Int32.ofInt (0) = v ∧ v.toInt = 0 := ⟨_, rfl, by decide +kernel⟩
        refine lv_iconst hx hb dX5_readRel_56 ev66 ?_
        rw [← hQ]
        exact en_i Z S62 F62 ⟨(by rw [rel_bad (by rw [← pk_1]; omega) (by rw [← pk_39]; omega)]; exact Did.bad (by decide) (by omega) (by omega)), (by omega), (by omega), (fun k hk => ((p62_1 k (fw_sub (by decide) hk)).trans ((fi_put P42 (Or.inr (fw_ne (by decide) hk))).trans ((fun k hk => rfl) k hk))))⟩ dX5_readRel_57
    · skip
      have tc38 := nu_ne c38
      refine lv_aload_n hx hb dX5_readRel_17 rfl (lv_at hl6 1 rfl) ?_
      obtain ⟨v67, ev67, tv67⟩ : ∃ v : Int32, Int32.ofInt (1) = v ∧ v.toInt = 1 := ⟨_, rfl, by decide +kernel⟩
      refine lv_iconst hx hb dX5_readRel_18 ev67 ?_
      refine lv_aload_n hx hb dX5_readRel_19 rfl (lv_at hl6 1 rfl) ?_
      refine tr_geti Z.1 Z.2.2.2.1 S1.1 S1.2 ha0 ta0 rfl rfl (fun _ h => List.mem_cons_of_mem _ (List.mem_append_right _ h)) 3 (by decide) rfl (hts _ (List.mem_of_getElem? (i := 1) rfl)) dX5_readRel_20 (fun v68 ev68 lv68 uv68 => ?_)
      have wv68 : v68 = (fi E a0 3) := ev68.symm.trans rfl
      have xv68 : v68.toInt = (fi E a0 3).toInt := by rw [wv68]
      have f0_23 : (fi E a0 4).toInt = 0 := h4
      refine tc_vv Z.1 Z.2.2.2.1 Z.2.2.2.2.1 Z.2.2.2.2.2 S1.1 S1.2 ha0 ta0 rfl rfl (k_X5_fail_vr l D cy S1.2 ha0 ta0 v67 (by omega) (by omega) v68) (cwV 2 hts gX5_readRel_X5_fail rfl rfl rfl (by decide +kernel) ⟨Nat.le_of_ble_eq_true rfl, Nat.le_of_ble_eq_true rfl⟩) rfl hl6.1 rfl (Nat.le_of_ble_eq_true rfl) dX5_readRel_23 ⟨Nat.zero_le _, Nat.zero_le _⟩ (fun E69 H70 k71 W69 I69 G69 p69 => ?_)
      obtain ⟨p69_0, p69_1⟩ := p69
      have S69 : Now D TB cy (va_A (va_pl L E) sz) s L τ E69 H70 k71 := ⟨W69, I69⟩
      have F69 : Fr L τ (inW [(7, 0)]) E E69 := F0_.trans (G69.mono (inW_mono (by decide)))
      have ff_23 : (fi E69 a0 4).toInt = v67.toInt ∧ (fi E69 a0 5).toInt = v68.toInt := by rcases p69_0 with q | q; omega; exact q.2
      obtain ⟨v73, ev73, tv73⟩ : ∃ v : Int32, Int32.ofInt (0) = v ∧ v.toInt = 0 := ⟨_, rfl, by decide +kernel⟩
      refine lv_iconst hx hb dX5_readRel_26 ev73 ?_
      rw [← hQ]
      exact en_i Z S69 F69 ⟨(by rw [rel_no (by rw [← pk_1]; omega)]; exact Did.bad (by decide) (by omega) (by omega)), (by omega), (by omega), (fun k hk => ((p69_1 k (fw_sub (by decide) hk)).trans ((fun k hk => rfl) k hk)))⟩ dX5_readRel_27

set_option maxHeartbeats 4000000 in
set_option maxRecDepth 100000 in
theorem k_X5_readQuant_vr (l : Launch) (D : va_G) (cy : Nat → ClassId) {L : List Nat} {τ : Nat → Ro} {E : Ec} (hI : Inv TB cy L τ E) {G : Sg} {a0 : Nat} (ha0 : a0 ∈ L) (ta0 : τ a0 = (7, 0)) {qt : Nat} (hqt : qt ∈ L) (tqt : τ qt = (32, 0)) (h4 : (fi E a0 4).toInt = 0) : CtV1 G l yX5_readQuant wsX5_readQuant { frames := 6, cells := 0, slots := 0, locals := 129 } D TB cy L τ E [.ref a0] (inW [(7, 0)]) (fun E' => (Did (fi E' a0 4).toInt (fi E' a0 5).toInt (fi E' a0 3).toInt (quantI (tx E qt a0 2) (fi E a0 2).toInt.toNat (fi E a0 3).toInt.toNat)) ∧ (∀ k : Nat, k ∉ ([3, 4, 5, 6] : List Nat) → fi E' a0 k = fi E a0 k)) := by
  intro sz
  refine sta1 (cc := cX5_readQuant) (maxL := 2) hI (by decide) rfl (Nat.le_of_ble_eq_true rfl) (fun p e s m args below meth c ls hsz Z SZ S0 hl => ?_)
  have hx := Z.1.1
  have hb := Z.1.2.1
  have hts := Z.1.2.2.2.2
  have F0_ : Fr L τ (inW [(7, 0)]) E E := Fr.refl
  have hl : lv_has ls 2 [(0, .ref a0)] := hl
  generalize hQ : MQ below _ args s 0 0 _ = QQ
  have kz_a0_4 := fi_rng (k := 4) hI ha0 ta0 rfl rfl
  have kz_a0_5 := fi_rng (k := 5) hI ha0 ta0 rfl rfl
  have kz_a0_3 := fi_rng (k := 3) hI ha0 ta0 rfl rfl
  have kz_a0_2 := fi_rng (k := 2) hI ha0 ta0 rfl rfl
  have hTr : ∀ p : Nat, -128 ≤ (tx E qt a0 2) p ∧ (tx E qt a0 2) p ≤ 127 := tx_rng hI hqt tqt rfl (by omega)
  refine lv_aload_n hx hb dX5_readQuant_0 rfl (lv_at hl 0 rfl) ?_
  have fe_1a : fi E a0 2 = fi E a0 2 := rfl
  have tq_1a : (tx E qt a0 2) = (tx E qt a0 2) := rfl
  have pz_1a : (fi E a0 3).toInt = (((fi E a0 3).toInt.toNat : Nat) : Int) := by omega
  have po_1a : (fi E a0 3).toInt = (((fi E a0 3).toInt.toNat : Nat) : Int) := pz_1a
  refine tc_vv Z.1 Z.2.2.2.1 Z.2.2.2.2.1 Z.2.2.2.2.2 S0.1 S0.2 ha0 ta0 rfl rfl (k_X5_skipBlanks_vr l D cy S0.2 ha0 ta0 hqt tqt) (cwV 0 hts gX5_readQuant_X5_skipBlanks rfl rfl rfl (by decide +kernel) ⟨Nat.le_of_ble_eq_true rfl, Nat.le_of_ble_eq_true rfl⟩) rfl hl.1 rfl (Nat.le_of_ble_eq_true rfl) dX5_readQuant_1 ⟨Nat.zero_le _, Nat.zero_le _⟩ (fun E1 H2 k3 W1 I1 G1 p1 => ?_)
  obtain ⟨p1_0, p1_1⟩ := p1
  have S1 : Now D TB cy (va_A (va_pl L E) sz) s L τ E1 H2 k3 := ⟨W1, I1⟩
  have F1 : Fr L τ (inW [(7, 0)]) E E1 := F0_.trans (G1.mono (inW_mono (by decide)))
  have po_1 : (fi E1 a0 3).toInt = (((skI (tx E qt a0 2) (fi E a0 2).toInt.toNat (fi E a0 3).toInt.toNat) : Nat) : Int) := by have q := p1_0; skip; exact q
  have kp_1 := fi_rng (k := 3) S1.2 ha0 ta0 rfl rfl
  refine lv_aload_n hx hb dX5_readQuant_4 rfl (lv_at hl 0 rfl) ?_
  have fe_5a : fi E1 a0 2 = fi E a0 2 := (p1_1 2 (by decide))
  have tq_5a : tx E1 qt a0 2 = (tx E qt a0 2) := tx_same (F1 qt hqt (by rw [tqt]; rfl)) fe_5a
  have po_5a : (fi E1 a0 3).toInt = (((skI (tx E qt a0 2) (fi E a0 2).toInt.toNat (fi E a0 3).toInt.toNat) : Nat) : Int) := po_1
  refine tc_vi Z.1 Z.2.2.2.1 Z.2.2.2.2.1 Z.2.2.2.2.2 S1.1 S1.2 ha0 ta0 rfl rfl (k_X5_letters_vr l D cy S1.2 ha0 ta0 hqt tqt) (cwV 0 hts gX5_readQuant_X5_letters rfl rfl rfl (by decide +kernel) ⟨Nat.le_of_ble_eq_true rfl, Nat.le_of_ble_eq_true rfl⟩) rfl hl.1 rfl (Nat.le_of_ble_eq_true rfl) dX5_readQuant_5 ⟨Nat.zero_le _, Nat.zero_le _⟩ (fun v8 E5 H6 k7 W5 I5 G5 p5 => ?_)
  obtain ⟨q5, p5_0, p5_1, p5_2, p5_3⟩ := p5
  have q5 := q5.symm
  subst q5
  have S5 : Now D TB cy (va_A (va_pl L E) sz) s L τ E1 H6 k7 := ⟨W5, I5⟩
  have lt_5 : v8.toInt = ((ltI (tx E qt a0 2) (fi E a0 2).toInt.toNat (skI (tx E qt a0 2) (fi E a0 2).toInt.toNat (fi E a0 3).toInt.toNat) : Nat) : Int) - (((skI (tx E qt a0 2) (fi E a0 2).toInt.toNat (fi E a0 3).toInt.toNat) : Nat) : Int) := by have q := p5_1; rw [tq_5a, fe_5a, show (fi E1 a0 3).toInt.toNat = (skI (tx E qt a0 2) (fi E a0 2).toInt.toNat (fi E a0 3).toInt.toNat) from by omega] at q; omega
  refine lv_istore_n (lv' := [(1, .int v8), (0, .ref a0)]) hx hb dX5_readQuant_8 rfl hl (by decide) rfl (fun l9 hl10 => ?_)
  refine lv_aload_n hx hb dX5_readQuant_9 rfl (lv_at hl10 1 rfl) ?_
  refine lv_aload_n hx hb dX5_readQuant_10 rfl (lv_at hl10 1 rfl) ?_
  refine va_ldcS hx hb Z.1.2.2.2.1 SZ.2.2.2.2.2.2.1.1 dX5_readQuant_11 ?_
  refine lv_iload_n hx hb dX5_readQuant_13 rfl (lv_at hl10 0 rfl) ?_
  have fe_14a : fi E1 a0 2 = fi E a0 2 := (p1_1 2 (by decide))
  have tq_14a : tx E1 qt a0 2 = (tx E qt a0 2) := tx_same (F1 qt hqt (by rw [tqt]; rfl)) fe_14a
  have po_14a : (fi E1 a0 3).toInt = (((skI (tx E qt a0 2) (fi E a0 2).toInt.toNat (fi E a0 3).toInt.toNat) : Nat) : Int) := po_1
  refine tc1_vi Z.1 Z.2.2.2.1 Z.2.2.2.2.1 Z.2.2.2.2.2 SZ S5.1 S5.2 ha0 ta0 rfl rfl (k_X5_stands_vr l D cy S5.2 ha0 ta0 (by decide) v8 hqt tqt (by rw [tq_14a, fe_14a, show (fi E1 a0 3).toInt.toNat = (skI (tx E qt a0 2) (fi E a0 2).toInt.toNat (fi E a0 3).toInt.toNat) from by omega]; omega)) (cwV 2 hts gX5_readQuant_X5_stands rfl rfl rfl (by decide +kernel) ⟨Nat.le_of_ble_eq_true rfl, Nat.le_of_ble_eq_true rfl⟩) rfl hl10.1 rfl (Nat.le_of_ble_eq_true rfl) dX5_readQuant_14 ⟨Nat.zero_le _, Nat.zero_le _⟩ (fun v14 E11 H12 k13 W11 I11 G11 p11 => ?_)
  obtain ⟨q11, p11_0, p11_1, p11_2⟩ := p11
  have q11 := q11.symm
  subst q11
  have S11 : Now D TB cy (va_A (va_pl L E) sz) s L τ E1 H12 k13 := ⟨W11, I11⟩
  have sd_14 : (v14.toInt = 1 ∧ wdI (tx E qt a0 2) (fi E a0 2).toInt.toNat (skI (tx E qt a0 2) (fi E a0 2).toInt.toNat (fi E a0 3).toInt.toNat) = wV 8) ∨ (v14.toInt = 0 ∧ wdI (tx E qt a0 2) (fi E a0 2).toInt.toNat (skI (tx E qt a0 2) (fi E a0 2).toInt.toNat (fi E a0 3).toInt.toNat) ≠ wV 8) := by rcases p11_0 with q | q; have q2 := q.2.1; rw [tq_14a, fe_14a, show (fi E1 a0 3).toInt.toNat = (skI (tx E qt a0 2) (fi E a0 2).toInt.toNat (fi E a0 3).toInt.toNat) from by omega] at q2; exact Or.inl ⟨q.1, q2⟩; have q2 := q.2; rw [tq_14a, fe_14a, show (fi E1 a0 3).toInt.toNat = (skI (tx E qt a0 2) (fi E a0 2).toInt.toNat (fi E a0 3).toInt.toNat) from by omega] at q2; exact Or.inr ⟨q.1, q2⟩
  refine tr_putz Z.1 Z.2.2.2.1 S11.1 S11.2 ha0 ta0 rfl rfl (fun _ h => List.mem_cons_of_mem _ (List.mem_append_right _ h)) tyX5_ok nmX5 6 (by decide) rfl rfl rfl (hts _ (List.mem_of_getElem? (i := 1) rfl)) dX5_readQuant_17 (by omega) (by omega) (fun E15 H16 k17 W15 I15 P15 => ?_)
  have S15 : Now D TB cy (va_A (va_pl L E) sz) s L τ E15 H16 k17 := ⟨W15, I15⟩
  have F15 : Fr L τ (inW [(7, 0)]) E E15 := Fr.put F1 P15 ta0 rfl
  refine lv_aload_n hx hb dX5_readQuant_20 rfl (lv_at hl10 1 rfl) ?_
  refine tr_geti Z.1 Z.2.2.2.1 S15.1 S15.2 ha0 ta0 rfl rfl (fun _ h => List.mem_cons_of_mem _ (List.mem_append_right _ h)) 6 (by decide) rfl (hts _ (List.mem_of_getElem? (i := 1) rfl)) dX5_readQuant_21 (fun v18 ev18 lv18 uv18 => ?_)
  have wv18 : v18 = v14 := ev18.symm.trans (fi_at P15)
  have xv18 : v18.toInt = v14.toInt := by rw [wv18]
  refine lv_if_ne (tgt := 47) hx hb dX5_readQuant_24 (by decide) (fun c19 => ?_) (fun c19 => ?_)
  · skip
    have tc19 := nu_ne c19
    have uc19 : (0 : Int32).toInt = 0 := rfl
    refine lv_aload_n hx hb dX5_readQuant_47 rfl (lv_at hl10 1 rfl) ?_
    refine lv_dup hx hb dX5_readQuant_48 rfl ?_
    refine tr_geti Z.1 Z.2.2.2.1 S15.1 S15.2 ha0 ta0 rfl rfl (fun _ h => List.mem_cons_of_mem _ (List.mem_append_right _ h)) 3 (by decide) rfl (hts _ (List.mem_of_getElem? (i := 2) rfl)) dX5_readQuant_49 (fun v20 ev20 lv20 uv20 => ?_)
    have wv20 : v20 = (fi E1 a0 3) := ev20.symm.trans ((fi_put (k := 3) P15 (Or.inr (by decide))).trans rfl)
    have xv20 : v20.toInt = (fi E1 a0 3).toInt := by rw [wv20]
    refine lv_iload_n hx hb dX5_readQuant_52 rfl (lv_at hl10 0 rfl) ?_
    refine lv_iadd hx hb dX5_readQuant_53 ?_
    refine lv_topi (fun v21 ev21 => ?_)
    have tv21 := nu_add ev21 (by omega) (by omega)
    refine tr_puti Z.1 Z.2.2.2.1 S15.1 S15.2 ha0 ta0 rfl rfl (fun _ h => List.mem_cons_of_mem _ (List.mem_append_right _ h)) tyX5_ok nmX5 3 (by decide) rfl rfl rfl (hts _ (List.mem_of_getElem? (i := 2) rfl)) dX5_readQuant_54 (by omega) (by omega) (fun E22 H23 k24 W22 I22 P22 => ?_)
    have S22 : Now D TB cy (va_A (va_pl L E) sz) s L τ E22 H23 k24 := ⟨W22, I22⟩
    have F22 : Fr L τ (inW [(7, 0)]) E E22 := Fr.put F15 P22 ta0 rfl
    have po_54 : (fi E22 a0 3).toInt = (((ltI (tx E qt a0 2) (fi E a0 2).toInt.toNat (skI (tx E qt a0 2) (fi E a0 2).toInt.toNat (fi E a0 3).toInt.toNat)) : Nat) : Int) := by have q : (fi E15 a0 3).toInt = (((skI (tx E qt a0 2) (fi E a0 2).toInt.toNat (fi E a0 3).toInt.toNat) : Nat) : Int) := (by rw [(fi_put (k := 3) P15 (Or.inr (by decide)))]; exact po_1); rw [(fi_at P22)]; omega
    rw [← hQ]
    exact en_v Z S22 F22 ⟨(by rw [quant_ok (Or.inl (by rcases sd_14 with q | q; exact q.2; omega))]; exact Did.ok (by rw [((fi_put (k := 4) P22 (Or.inr (by decide))).trans ((fi_put (k := 4) P15 (Or.inr (by decide))).trans (p1_1 4 (by decide))))]; exact h4) po_54), (fun k hk => ((fi_put P22 (Or.inr (fw_ne (by decide) hk))).trans ((fi_put P15 (Or.inr (fw_ne (by decide) hk))).trans ((p1_1 k (fw_sub (by decide) hk)).trans ((fun k hk => rfl) k hk)))))⟩ dX5_readQuant_57
  · skip
    have tc19 := nu_eq c19
    have uc19 : (0 : Int32).toInt = 0 := rfl
    refine lv_aload_n hx hb dX5_readQuant_27 rfl (lv_at hl10 1 rfl) ?_
    refine va_ldcS hx hb Z.1.2.2.2.1 SZ.2.2.2.2.2.2.1.2.1 dX5_readQuant_28 ?_
    refine lv_iload_n hx hb dX5_readQuant_30 rfl (lv_at hl10 0 rfl) ?_
    have fe_31a : fi E15 a0 2 = fi E a0 2 := ((fi_put (k := 2) P15 (Or.inr (by decide))).trans (p1_1 2 (by decide)))
    have tq_31a : tx E15 qt a0 2 = (tx E qt a0 2) := tx_same (F15 qt hqt (by rw [tqt]; rfl)) fe_31a
    have po_31a : (fi E15 a0 3).toInt = (((skI (tx E qt a0 2) (fi E a0 2).toInt.toNat (fi E a0 3).toInt.toNat) : Nat) : Int) := by rw [(fi_put (k := 3) P15 (Or.inr (by decide)))]; exact po_1
    refine tc1_vi Z.1 Z.2.2.2.1 Z.2.2.2.2.1 Z.2.2.2.2.2 SZ S15.1 S15.2 ha0 ta0 rfl rfl (k_X5_stands_vr l D cy S15.2 ha0 ta0 (by decide) v8 hqt tqt (by rw [tq_31a, fe_31a, show (fi E15 a0 3).toInt.toNat = (skI (tx E qt a0 2) (fi E a0 2).toInt.toNat (fi E a0 3).toInt.toNat) from by omega]; omega)) (cwV 2 hts gX5_readQuant_X5_stands rfl rfl rfl (by decide +kernel) ⟨Nat.le_of_ble_eq_true rfl, Nat.le_of_ble_eq_true rfl⟩) rfl hl10.1 rfl (Nat.le_of_ble_eq_true rfl) dX5_readQuant_31 ⟨Nat.zero_le _, Nat.zero_le _⟩ (fun v28 E25 H26 k27 W25 I25 G25 p25 => ?_)
    obtain ⟨q25, p25_0, p25_1, p25_2⟩ := p25
    have q25 := q25.symm
    subst q25
    have S25 : Now D TB cy (va_A (va_pl L E) sz) s L τ E15 H26 k27 := ⟨W25, I25⟩
    have sd_31 : (v28.toInt = 1 ∧ wdI (tx E qt a0 2) (fi E a0 2).toInt.toNat (skI (tx E qt a0 2) (fi E a0 2).toInt.toNat (fi E a0 3).toInt.toNat) = wV 9) ∨ (v28.toInt = 0 ∧ wdI (tx E qt a0 2) (fi E a0 2).toInt.toNat (skI (tx E qt a0 2) (fi E a0 2).toInt.toNat (fi E a0 3).toInt.toNat) ≠ wV 9) := by rcases p25_0 with q | q; have q2 := q.2.1; rw [tq_31a, fe_31a, show (fi E15 a0 3).toInt.toNat = (skI (tx E qt a0 2) (fi E a0 2).toInt.toNat (fi E a0 3).toInt.toNat) from by omega] at q2; exact Or.inl ⟨q.1, q2⟩; have q2 := q.2; rw [tq_31a, fe_31a, show (fi E15 a0 3).toInt.toNat = (skI (tx E qt a0 2) (fi E a0 2).toInt.toNat (fi E a0 3).toInt.toNat) from by omega] at q2; exact Or.inr ⟨q.1, q2⟩
    refine lv_if_ne (tgt := 47) hx hb dX5_readQuant_34 (by decide) (fun c29 => ?_) (fun c29 => ?_)
    · skip
      have tc29 := nu_ne c29
      have uc29 : (0 : Int32).toInt = 0 := rfl
      refine lv_aload_n hx hb dX5_readQuant_47 rfl (lv_at hl10 1 rfl) ?_
      refine lv_dup hx hb dX5_readQuant_48 rfl ?_
      refine tr_geti Z.1 Z.2.2.2.1 S25.1 S25.2 ha0 ta0 rfl rfl (fun _ h => List.mem_cons_of_mem _ (List.mem_append_right _ h)) 3 (by decide) rfl (hts _ (List.mem_of_getElem? (i := 2) rfl)) dX5_readQuant_49 (fun v30 ev30 lv30 uv30 => ?_)
      have wv30 : v30 = (fi E1 a0 3) := ev30.symm.trans ((fi_put (k := 3) P15 (Or.inr (by decide))).trans rfl)
      have xv30 : v30.toInt = (fi E1 a0 3).toInt := by rw [wv30]
      refine lv_iload_n hx hb dX5_readQuant_52 rfl (lv_at hl10 0 rfl) ?_
      refine lv_iadd hx hb dX5_readQuant_53 ?_
      refine lv_topi (fun v31 ev31 => ?_)
      have tv31 := nu_add ev31 (by omega) (by omega)
      refine tr_puti Z.1 Z.2.2.2.1 S25.1 S25.2 ha0 ta0 rfl rfl (fun _ h => List.mem_cons_of_mem _ (List.mem_append_right _ h)) tyX5_ok nmX5 3 (by decide) rfl rfl rfl (hts _ (List.mem_of_getElem? (i := 2) rfl)) dX5_readQuant_54 (by omega) (by omega) (fun E32 H33 k34 W32 I32 P32 => ?_)
      have S32 : Now D TB cy (va_A (va_pl L E) sz) s L τ E32 H33 k34 := ⟨W32, I32⟩
      have F32 : Fr L τ (inW [(7, 0)]) E E32 := Fr.put F15 P32 ta0 rfl
      have po_54 : (fi E32 a0 3).toInt = (((ltI (tx E qt a0 2) (fi E a0 2).toInt.toNat (skI (tx E qt a0 2) (fi E a0 2).toInt.toNat (fi E a0 3).toInt.toNat)) : Nat) : Int) := by have q : (fi E15 a0 3).toInt = (((skI (tx E qt a0 2) (fi E a0 2).toInt.toNat (fi E a0 3).toInt.toNat) : Nat) : Int) := (by rw [(fi_put (k := 3) P15 (Or.inr (by decide)))]; exact po_1); rw [(fi_at P32)]; omega
      rw [← hQ]
      exact en_v Z S32 F32 ⟨(by rw [quant_ok (Or.inr (by rcases sd_31 with q | q; exact q.2; omega))]; exact Did.ok (by rw [((fi_put (k := 4) P32 (Or.inr (by decide))).trans ((fi_put (k := 4) P15 (Or.inr (by decide))).trans (p1_1 4 (by decide))))]; exact h4) po_54), (fun k hk => ((fi_put P32 (Or.inr (fw_ne (by decide) hk))).trans ((fi_put P15 (Or.inr (fw_ne (by decide) hk))).trans ((p1_1 k (fw_sub (by decide) hk)).trans ((fun k hk => rfl) k hk)))))⟩ dX5_readQuant_57
    · skip
      have tc29 := nu_eq c29
      have uc29 : (0 : Int32).toInt = 0 := rfl
      refine lv_aload_n hx hb dX5_readQuant_37 rfl (lv_at hl10 1 rfl) ?_
      obtain ⟨v35, ev35, tv35⟩ : ∃ v : Int32, Int32.ofInt (1) = v ∧ v.toInt = 1 := ⟨_, rfl, by decide +kernel⟩
      refine lv_iconst hx hb dX5_readQuant_38 ev35 ?_
      refine lv_aload_n hx hb dX5_readQuant_39 rfl (lv_at hl10 1 rfl) ?_
      refine tr_geti Z.1 Z.2.2.2.1 S25.1 S25.2 ha0 ta0 rfl rfl (fun _ h => List.mem_cons_of_mem _ (List.mem_append_right _ h)) 3 (by decide) rfl (hts _ (List.mem_of_getElem? (i := 2) rfl)) dX5_readQuant_40 (fun v36 ev36 lv36 uv36 => ?_)
      have wv36 : v36 = (fi E1 a0 3) := ev36.symm.trans ((fi_put (k := 3) P15 (Or.inr (by decide))).trans rfl)
      have xv36 : v36.toInt = (fi E1 a0 3).toInt := by rw [wv36]
      have f0_43 : (fi E15 a0 4).toInt = 0 := by rw [((fi_put (k := 4) P15 (Or.inr (by decide))).trans (p1_1 4 (by decide)))]; exact h4
      refine tc_vv Z.1 Z.2.2.2.1 Z.2.2.2.2.1 Z.2.2.2.2.2 S25.1 S25.2 ha0 ta0 rfl rfl (k_X5_fail_vr l D cy S25.2 ha0 ta0 v35 (by omega) (by omega) v36) (cwV 2 hts gX5_readQuant_X5_fail rfl rfl rfl (by decide +kernel) ⟨Nat.le_of_ble_eq_true rfl, Nat.le_of_ble_eq_true rfl⟩) rfl hl10.1 rfl (Nat.le_of_ble_eq_true rfl) dX5_readQuant_43 ⟨Nat.zero_le _, Nat.zero_le _⟩ (fun E37 H38 k39 W37 I37 G37 p37 => ?_)
      obtain ⟨p37_0, p37_1⟩ := p37
      have S37 : Now D TB cy (va_A (va_pl L E) sz) s L τ E37 H38 k39 := ⟨W37, I37⟩
      have F37 : Fr L τ (inW [(7, 0)]) E E37 := F15.trans (G37.mono (inW_mono (by decide)))
      have ff_43 : (fi E37 a0 4).toInt = v35.toInt ∧ (fi E37 a0 5).toInt = v36.toInt := by rcases p37_0 with q | q; omega; exact q.2
      rw [← hQ]
      exact en_v Z S37 F37 ⟨(by rw [quant_no (fun z => by rcases sd_14 with q | q; omega; rcases sd_31 with w | w; omega; exact z.elim q.2 w.2)]; exact Did.bad (by decide) (by omega) (by omega)), (fun k hk => ((p37_1 k (fw_sub (by decide) hk)).trans ((fi_put P15 (Or.inr (fw_ne (by decide) hk))).trans ((p1_1 k (fw_sub (by decide) hk)).trans ((fun k hk => rfl) k hk)))))⟩ dX5_readQuant_46

set_option maxHeartbeats 4000000 in
set_option maxRecDepth 100000 in
theorem k_X5_readAnd_vr (l : Launch) (D : va_G) (cy : Nat → ClassId) {L : List Nat} {τ : Nat → Ro} {E : Ec} (hI : Inv TB cy L τ E) {G : Sg} {a0 : Nat} (ha0 : a0 ∈ L) (ta0 : τ a0 = (7, 0)) {qt : Nat} (hqt : qt ∈ L) (tqt : τ qt = (32, 0)) (h4 : (fi E a0 4).toInt = 0) : CtI1 G l yX5_readAnd wsX5_readAnd { frames := 6, cells := 0, slots := 0, locals := 129 } D TB cy L τ E [.ref a0] (inW [(7, 0)]) (fun r E' => ((r.toInt = 0 ∧ pkI (tx E qt a0 2) (fi E a0 2).toInt.toNat (skI (tx E qt a0 2) (fi E a0 2).toInt.toNat (fi E a0 3).toInt.toNat) = -1 ∧ (fi E' a0 4).toInt = 0 ∧ (fi E' a0 3).toInt = (((skI (tx E qt a0 2) (fi E a0 2).toInt.toNat (fi E a0 3).toInt.toNat) : Nat) : Int)) ∨ (pkI (tx E qt a0 2) (fi E a0 2).toInt.toNat (skI (tx E qt a0 2) (fi E a0 2).toInt.toNat (fi E a0 3).toInt.toNat) ≠ -1 ∧ Did (fi E' a0 4).toInt (fi E' a0 5).toInt (fi E' a0 3).toInt (andI (tx E qt a0 2) (fi E a0 2).toInt.toNat (fi E a0 8).toInt.toNat (skI (tx E qt a0 2) (fi E a0 2).toInt.toNat (fi E a0 3).toInt.toNat)) ∧ ((r.toInt = 1 ∧ (fi E' a0 4).toInt = 0) ∨ (r.toInt = 0 ∧ (fi E' a0 4).toInt ≠ 0)))) ∧ 0 ≤ r.toInt ∧ r.toInt ≤ 1 ∧ (∀ k : Nat, k ∉ ([3, 4, 5] : List Nat) → fi E' a0 k = fi E a0 k)) := by
  intro sz
  refine sta1 (cc := cX5_readAnd) (maxL := 2) hI (by decide) rfl (Nat.le_of_ble_eq_true rfl) (fun p e s m args below meth c ls hsz Z SZ S0 hl => ?_)
  have hx := Z.1.1
  have hb := Z.1.2.1
  have hts := Z.1.2.2.2.2
  have F0_ : Fr L τ (inW [(7, 0)]) E E := Fr.refl
  have hl : lv_has ls 2 [(0, .ref a0)] := hl
  generalize hQ : MQ below _ args s 0 0 _ = QQ
  have kz_a0_4 := fi_rng (k := 4) hI ha0 ta0 rfl rfl
  have kz_a0_5 := fi_rng (k := 5) hI ha0 ta0 rfl rfl
  have kz_a0_8 := fi_rng (k := 8) hI ha0 ta0 rfl rfl
  have kz_a0_3 := fi_rng (k := 3) hI ha0 ta0 rfl rfl
  have kz_a0_2 := fi_rng (k := 2) hI ha0 ta0 rfl rfl
  have hTr : ∀ p : Nat, -128 ≤ (tx E qt a0 2) p ∧ (tx E qt a0 2) p ≤ 127 := tx_rng hI hqt tqt rfl (by omega)
  refine lv_aload_n hx hb dX5_readAnd_0 rfl (lv_at hl 0 rfl) ?_
  have fe_1a : fi E a0 2 = fi E a0 2 := rfl
  have tq_1a : (tx E qt a0 2) = (tx E qt a0 2) := rfl
  have pz_1a : (fi E a0 3).toInt = (((fi E a0 3).toInt.toNat : Nat) : Int) := by omega
  have po_1a : (fi E a0 3).toInt = (((fi E a0 3).toInt.toNat : Nat) : Int) := pz_1a
  refine tc_vv Z.1 Z.2.2.2.1 Z.2.2.2.2.1 Z.2.2.2.2.2 S0.1 S0.2 ha0 ta0 rfl rfl (k_X5_skipBlanks_vr l D cy S0.2 ha0 ta0 hqt tqt) (cwV 0 hts gX5_readAnd_X5_skipBlanks rfl rfl rfl (by decide +kernel) ⟨Nat.le_of_ble_eq_true rfl, Nat.le_of_ble_eq_true rfl⟩) rfl hl.1 rfl (Nat.le_of_ble_eq_true rfl) dX5_readAnd_1 ⟨Nat.zero_le _, Nat.zero_le _⟩ (fun E1 H2 k3 W1 I1 G1 p1 => ?_)
  obtain ⟨p1_0, p1_1⟩ := p1
  have S1 : Now D TB cy (va_A (va_pl L E) sz) s L τ E1 H2 k3 := ⟨W1, I1⟩
  have F1 : Fr L τ (inW [(7, 0)]) E E1 := F0_.trans (G1.mono (inW_mono (by decide)))
  have po_1 : (fi E1 a0 3).toInt = (((skI (tx E qt a0 2) (fi E a0 2).toInt.toNat (fi E a0 3).toInt.toNat) : Nat) : Int) := by have q := p1_0; skip; exact q
  have kp_1 := fi_rng (k := 3) S1.2 ha0 ta0 rfl rfl
  refine lv_aload_n hx hb dX5_readAnd_4 rfl (lv_at hl 0 rfl) ?_
  have fe_5a : fi E1 a0 2 = fi E a0 2 := (p1_1 2 (by decide))
  have tq_5a : tx E1 qt a0 2 = (tx E qt a0 2) := tx_same (F1 qt hqt (by rw [tqt]; rfl)) fe_5a
  have po_5a : (fi E1 a0 3).toInt = (((skI (tx E qt a0 2) (fi E a0 2).toInt.toNat (fi E a0 3).toInt.toNat) : Nat) : Int) := po_1
  refine tc_vi Z.1 Z.2.2.2.1 Z.2.2.2.2.1 Z.2.2.2.2.2 S1.1 S1.2 ha0 ta0 rfl rfl (k_X5_peek_vr l D cy S1.2 ha0 ta0 hqt tqt) (cwV 0 hts gX5_readAnd_X5_peek rfl rfl rfl (by decide +kernel) ⟨Nat.le_of_ble_eq_true rfl, Nat.le_of_ble_eq_true rfl⟩) rfl hl.1 rfl (Nat.le_of_ble_eq_true rfl) dX5_readAnd_5 ⟨Nat.zero_le _, Nat.zero_le _⟩ (fun v8 E5 H6 k7 W5 I5 G5 p5 => ?_)
  obtain ⟨q5, p5_0, p5_1, p5_2, p5_3⟩ := p5
  have q5 := q5.symm
  subst q5
  have S5 : Now D TB cy (va_A (va_pl L E) sz) s L τ E1 H6 k7 := ⟨W5, I5⟩
  have pk_5 : v8.toInt = pkI (tx E qt a0 2) (fi E a0 2).toInt.toNat (skI (tx E qt a0 2) (fi E a0 2).toInt.toNat (fi E a0 3).toInt.toNat) := by have q := p5_1; rw [tq_5a, fe_5a, show (fi E1 a0 3).toInt.toNat = (skI (tx E qt a0 2) (fi E a0 2).toInt.toNat (fi E a0 3).toInt.toNat) from by omega] at q; exact q
  obtain ⟨v9, ev9, tv9⟩ : ∃ v : Int32, Int32.ofInt (-1) = v ∧ v.toInt = -1 := ⟨_, rfl, by decide +kernel⟩
  refine lv_iconst hx hb dX5_readAnd_8 ev9 ?_
  refine lv_icmp_ne (tgt := 14) hx hb dX5_readAnd_9 (by decide) (fun c10 => ?_) (fun c10 => ?_)
  · skip
    have tc10 := nu_ne c10
    refine lv_aload_n hx hb dX5_readAnd_14 rfl (lv_at hl 0 rfl) ?_
    have fe_15a : fi E1 a0 2 = fi E a0 2 := (p1_1 2 (by decide))
    have tq_15a : tx E1 qt a0 2 = (tx E qt a0 2) := tx_same (F1 qt hqt (by rw [tqt]; rfl)) fe_15a
    have po_15a : (fi E1 a0 3).toInt = (((skI (tx E qt a0 2) (fi E a0 2).toInt.toNat (fi E a0 3).toInt.toNat) : Nat) : Int) := po_1
    refine tc_vi Z.1 Z.2.2.2.1 Z.2.2.2.2.1 Z.2.2.2.2.2 S5.1 S5.2 ha0 ta0 rfl rfl (k_X5_letters_vr l D cy S5.2 ha0 ta0 hqt tqt) (cwV 0 hts gX5_readAnd_X5_letters rfl rfl rfl (by decide +kernel) ⟨Nat.le_of_ble_eq_true rfl, Nat.le_of_ble_eq_true rfl⟩) rfl hl.1 rfl (Nat.le_of_ble_eq_true rfl) dX5_readAnd_15 ⟨Nat.zero_le _, Nat.zero_le _⟩ (fun v14 E11 H12 k13 W11 I11 G11 p11 => ?_)
    obtain ⟨q11, p11_0, p11_1, p11_2, p11_3⟩ := p11
    have q11 := q11.symm
    subst q11
    have S11 : Now D TB cy (va_A (va_pl L E) sz) s L τ E1 H12 k13 := ⟨W11, I11⟩
    have lt_15 : v14.toInt = ((ltI (tx E qt a0 2) (fi E a0 2).toInt.toNat (skI (tx E qt a0 2) (fi E a0 2).toInt.toNat (fi E a0 3).toInt.toNat) : Nat) : Int) - (((skI (tx E qt a0 2) (fi E a0 2).toInt.toNat (fi E a0 3).toInt.toNat) : Nat) : Int) := by have q := p11_1; rw [tq_15a, fe_15a, show (fi E1 a0 3).toInt.toNat = (skI (tx E qt a0 2) (fi E a0 2).toInt.toNat (fi E a0 3).toInt.toNat) from by omega] at q; omega
    refine lv_istore_n (lv' := [(1, .int v14), (0, .ref a0)]) hx hb dX5_readAnd_18 rfl hl (by decide) rfl (fun l15 hl16 => ?_)
    refine lv_aload_n hx hb dX5_readAnd_19 rfl (lv_at hl16 1 rfl) ?_
    refine va_ldcS hx hb Z.1.2.2.2.1 SZ.2.2.2.2.2.2.1.2.2 dX5_readAnd_20 ?_
    refine lv_iload_n hx hb dX5_readAnd_22 rfl (lv_at hl16 0 rfl) ?_
    have fe_23a : fi E1 a0 2 = fi E a0 2 := (p1_1 2 (by decide))
    have tq_23a : tx E1 qt a0 2 = (tx E qt a0 2) := tx_same (F1 qt hqt (by rw [tqt]; rfl)) fe_23a
    have po_23a : (fi E1 a0 3).toInt = (((skI (tx E qt a0 2) (fi E a0 2).toInt.toNat (fi E a0 3).toInt.toNat) : Nat) : Int) := po_1
    refine tc1_vi Z.1 Z.2.2.2.1 Z.2.2.2.2.1 Z.2.2.2.2.2 SZ S11.1 S11.2 ha0 ta0 rfl rfl (k_X5_stands_vr l D cy S11.2 ha0 ta0 (by decide) v14 hqt tqt (by rw [tq_23a, fe_23a, show (fi E1 a0 3).toInt.toNat = (skI (tx E qt a0 2) (fi E a0 2).toInt.toNat (fi E a0 3).toInt.toNat) from by omega]; omega)) (cwV 2 hts gX5_readAnd_X5_stands rfl rfl rfl (by decide +kernel) ⟨Nat.le_of_ble_eq_true rfl, Nat.le_of_ble_eq_true rfl⟩) rfl hl16.1 rfl (Nat.le_of_ble_eq_true rfl) dX5_readAnd_23 ⟨Nat.zero_le _, Nat.zero_le _⟩ (fun v20 E17 H18 k19 W17 I17 G17 p17 => ?_)
    obtain ⟨q17, p17_0, p17_1, p17_2⟩ := p17
    have q17 := q17.symm
    subst q17
    have S17 : Now D TB cy (va_A (va_pl L E) sz) s L τ E1 H18 k19 := ⟨W17, I17⟩
    have sd_23 : (v20.toInt = 1 ∧ wdI (tx E qt a0 2) (fi E a0 2).toInt.toNat (skI (tx E qt a0 2) (fi E a0 2).toInt.toNat (fi E a0 3).toInt.toNat) = wV 10) ∨ (v20.toInt = 0 ∧ wdI (tx E qt a0 2) (fi E a0 2).toInt.toNat (skI (tx E qt a0 2) (fi E a0 2).toInt.toNat (fi E a0 3).toInt.toNat) ≠ wV 10) := by rcases p17_0 with q | q; have q2 := q.2.1; rw [tq_23a, fe_23a, show (fi E1 a0 3).toInt.toNat = (skI (tx E qt a0 2) (fi E a0 2).toInt.toNat (fi E a0 3).toInt.toNat) from by omega] at q2; exact Or.inl ⟨q.1, q2⟩; have q2 := q.2; rw [tq_23a, fe_23a, show (fi E1 a0 3).toInt.toNat = (skI (tx E qt a0 2) (fi E a0 2).toInt.toNat (fi E a0 3).toInt.toNat) from by omega] at q2; exact Or.inr ⟨q.1, q2⟩
    refine lv_if_ne (tgt := 40) hx hb dX5_readAnd_26 (by decide) (fun c21 => ?_) (fun c21 => ?_)
    · skip
      have tc21 := nu_ne c21
      have uc21 : (0 : Int32).toInt = 0 := rfl
      refine lv_aload_n hx hb dX5_readAnd_40 rfl (lv_at hl16 1 rfl) ?_
      refine tr_geti Z.1 Z.2.2.2.1 S17.1 S17.2 ha0 ta0 rfl rfl (fun _ h => List.mem_cons_of_mem _ (List.mem_append_right _ h)) 8 (by decide) rfl (hts _ (List.mem_of_getElem? (i := 2) rfl)) dX5_readAnd_41 (fun v22 ev22 lv22 uv22 => ?_)
      have wv22 : v22 = (fi E a0 8) := ev22.symm.trans ((p1_1 8 (by decide)).trans rfl)
      have xv22 : v22.toInt = (fi E a0 8).toInt := by rw [wv22]
      obtain ⟨v23, ev23, tv23⟩ : ∃ v : Int32, Int32.ofInt (4) = v ∧ v.toInt = 4 := ⟨_, rfl, by decide +kernel⟩
      refine lv_iconst hx hb dX5_readAnd_44 ev23 ?_
      refine lv_icmp_lt (tgt := 59) hx hb dX5_readAnd_45 (by decide) (fun c24 => ?_) (fun c24 => ?_)
      · skip
        have tc24 := nu_lt c24
        refine lv_aload_n hx hb dX5_readAnd_59 rfl (lv_at hl16 1 rfl) ?_
        refine lv_dup hx hb dX5_readAnd_60 rfl ?_
        refine tr_geti Z.1 Z.2.2.2.1 S17.1 S17.2 ha0 ta0 rfl rfl (fun _ h => List.mem_cons_of_mem _ (List.mem_append_right _ h)) 3 (by decide) rfl (hts _ (List.mem_of_getElem? (i := 1) rfl)) dX5_readAnd_61 (fun v25 ev25 lv25 uv25 => ?_)
        have wv25 : v25 = (fi E1 a0 3) := ev25.symm.trans rfl
        have xv25 : v25.toInt = (fi E1 a0 3).toInt := by rw [wv25]
        refine lv_iload_n hx hb dX5_readAnd_64 rfl (lv_at hl16 0 rfl) ?_
        refine lv_iadd hx hb dX5_readAnd_65 ?_
        refine lv_topi (fun v26 ev26 => ?_)
        have tv26 := nu_add ev26 (by omega) (by omega)
        refine tr_puti Z.1 Z.2.2.2.1 S17.1 S17.2 ha0 ta0 rfl rfl (fun _ h => List.mem_cons_of_mem _ (List.mem_append_right _ h)) tyX5_ok nmX5 3 (by decide) rfl rfl rfl (hts _ (List.mem_of_getElem? (i := 1) rfl)) dX5_readAnd_66 (by omega) (by omega) (fun E27 H28 k29 W27 I27 P27 => ?_)
        have S27 : Now D TB cy (va_A (va_pl L E) sz) s L τ E27 H28 k29 := ⟨W27, I27⟩
        have F27 : Fr L τ (inW [(7, 0)]) E E27 := Fr.put F1 P27 ta0 rfl
        have po_66 : (fi E27 a0 3).toInt = (((ltI (tx E qt a0 2) (fi E a0 2).toInt.toNat (skI (tx E qt a0 2) (fi E a0 2).toInt.toNat (fi E a0 3).toInt.toNat)) : Nat) : Int) := by have q : (fi E1 a0 3).toInt = (((skI (tx E qt a0 2) (fi E a0 2).toInt.toNat (fi E a0 3).toInt.toNat) : Nat) : Int) := po_1; rw [(fi_at P27)]; omega
        obtain ⟨v30, ev30, tv30⟩ : ∃ v : Int32, Int32.ofInt (1) = v ∧ v.toInt = 1 := ⟨_, rfl, by decide +kernel⟩
        refine lv_iconst hx hb dX5_readAnd_69 ev30 ?_
        rw [← hQ]
        exact en_z Z S27 F27 (zo v30 (by omega)) ⟨(Or.inr ⟨(by rw [← pk_5]; omega), (by rw [and_ok (by rcases sd_23 with q | q; exact q.2; omega) (by omega)]; exact Did.ok (by rw [((fi_put (k := 4) P27 (Or.inr (by decide))).trans (p1_1 4 (by decide)))]; exact h4) po_66), Or.inl ⟨by omega, (by rw [((fi_put (k := 4) P27 (Or.inr (by decide))).trans (p1_1 4 (by decide)))]; exact h4)⟩⟩), (by omega), (by omega), (fun k hk => ((fi_put P27 (Or.inr (fw_ne (by decide) hk))).trans ((p1_1 k (fw_sub (by decide) hk)).trans ((fun k hk => rfl) k hk))))⟩ dX5_readAnd_70
      · skip
        have tc24 := nu_nlt c24
        refine lv_aload_n hx hb dX5_readAnd_48 rfl (lv_at hl16 1 rfl) ?_
        obtain ⟨v31, ev31, tv31⟩ : ∃ v : Int32, Int32.ofInt (3) = v ∧ v.toInt = 3 := ⟨_, rfl, by decide +kernel⟩
        refine lv_iconst hx hb dX5_readAnd_49 ev31 ?_
        refine lv_aload_n hx hb dX5_readAnd_50 rfl (lv_at hl16 1 rfl) ?_
        refine tr_geti Z.1 Z.2.2.2.1 S17.1 S17.2 ha0 ta0 rfl rfl (fun _ h => List.mem_cons_of_mem _ (List.mem_append_right _ h)) 3 (by decide) rfl (hts _ (List.mem_of_getElem? (i := 1) rfl)) dX5_readAnd_51 (fun v32 ev32 lv32 uv32 => ?_)
        have wv32 : v32 = (fi E1 a0 3) := ev32.symm.trans rfl
        have xv32 : v32.toInt = (fi E1 a0 3).toInt := by rw [wv32]
        have f0_54 : (fi E1 a0 4).toInt = 0 := by rw [(p1_1 4 (by decide))]; exact h4
        refine tc_vv Z.1 Z.2.2.2.1 Z.2.2.2.2.1 Z.2.2.2.2.2 S17.1 S17.2 ha0 ta0 rfl rfl (k_X5_fail_vr l D cy S17.2 ha0 ta0 v31 (by omega) (by omega) v32) (cwV 2 hts gX5_readAnd_X5_fail rfl rfl rfl (by decide +kernel) ⟨Nat.le_of_ble_eq_true rfl, Nat.le_of_ble_eq_true rfl⟩) rfl hl16.1 rfl (Nat.le_of_ble_eq_true rfl) dX5_readAnd_54 ⟨Nat.zero_le _, Nat.zero_le _⟩ (fun E33 H34 k35 W33 I33 G33 p33 => ?_)
        obtain ⟨p33_0, p33_1⟩ := p33
        have S33 : Now D TB cy (va_A (va_pl L E) sz) s L τ E33 H34 k35 := ⟨W33, I33⟩
        have F33 : Fr L τ (inW [(7, 0)]) E E33 := F1.trans (G33.mono (inW_mono (by decide)))
        have ff_54 : (fi E33 a0 4).toInt = v31.toInt ∧ (fi E33 a0 5).toInt = v32.toInt := by rcases p33_0 with q | q; omega; exact q.2
        obtain ⟨v37, ev37, tv37⟩ : ∃ v : Int32, Int32.ofInt (0) = v ∧ v.toInt = 0 := ⟨_, rfl, by decide +kernel⟩
        refine lv_iconst hx hb dX5_readAnd_57 ev37 ?_
        rw [← hQ]
        exact en_z Z S33 F33 (zo v37 (by omega)) ⟨(Or.inr ⟨(by rw [← pk_5]; omega), (by rw [and_long (by rcases sd_23 with q | q; exact q.2; omega) (by omega)]; exact Did.bad (by decide) (by omega) (by omega)), Or.inr ⟨by omega, by omega⟩⟩), (by omega), (by omega), (fun k hk => ((p33_1 k (fw_sub (by decide) hk)).trans ((p1_1 k (fw_sub (by decide) hk)).trans ((fun k hk => rfl) k hk))))⟩ dX5_readAnd_58
    · skip
      have tc21 := nu_eq c21
      have uc21 : (0 : Int32).toInt = 0 := rfl
      refine lv_aload_n hx hb dX5_readAnd_29 rfl (lv_at hl16 1 rfl) ?_
      obtain ⟨v38, ev38, tv38⟩ : ∃ v : Int32, Int32.ofInt (1) = v ∧ v.toInt = 1 := ⟨_, rfl, by decide +kernel⟩
      refine lv_iconst hx hb dX5_readAnd_30 ev38 ?_
      refine lv_aload_n hx hb dX5_readAnd_31 rfl (lv_at hl16 1 rfl) ?_
      refine tr_geti Z.1 Z.2.2.2.1 S17.1 S17.2 ha0 ta0 rfl rfl (fun _ h => List.mem_cons_of_mem _ (List.mem_append_right _ h)) 3 (by decide) rfl (hts _ (List.mem_of_getElem? (i := 1) rfl)) dX5_readAnd_32 (fun v39 ev39 lv39 uv39 => ?_)
      have wv39 : v39 = (fi E1 a0 3) := ev39.symm.trans rfl
      have xv39 : v39.toInt = (fi E1 a0 3).toInt := by rw [wv39]
      have f0_35 : (fi E1 a0 4).toInt = 0 := by rw [(p1_1 4 (by decide))]; exact h4
      refine tc_vv Z.1 Z.2.2.2.1 Z.2.2.2.2.1 Z.2.2.2.2.2 S17.1 S17.2 ha0 ta0 rfl rfl (k_X5_fail_vr l D cy S17.2 ha0 ta0 v38 (by omega) (by omega) v39) (cwV 2 hts gX5_readAnd_X5_fail rfl rfl rfl (by decide +kernel) ⟨Nat.le_of_ble_eq_true rfl, Nat.le_of_ble_eq_true rfl⟩) rfl hl16.1 rfl (Nat.le_of_ble_eq_true rfl) dX5_readAnd_35 ⟨Nat.zero_le _, Nat.zero_le _⟩ (fun E40 H41 k42 W40 I40 G40 p40 => ?_)
      obtain ⟨p40_0, p40_1⟩ := p40
      have S40 : Now D TB cy (va_A (va_pl L E) sz) s L τ E40 H41 k42 := ⟨W40, I40⟩
      have F40 : Fr L τ (inW [(7, 0)]) E E40 := F1.trans (G40.mono (inW_mono (by decide)))
      have ff_35 : (fi E40 a0 4).toInt = v38.toInt ∧ (fi E40 a0 5).toInt = v39.toInt := by rcases p40_0 with q | q; omega; exact q.2
      obtain ⟨v44, ev44, tv44⟩ : ∃ v : Int32, Int32.ofInt (0) = v ∧ v.toInt = 0 := ⟨_, rfl, by decide +kernel⟩
      refine lv_iconst hx hb dX5_readAnd_38 ev44 ?_
      rw [← hQ]
      exact en_z Z S40 F40 (zo v44 (by omega)) ⟨(Or.inr ⟨(by rw [← pk_5]; omega), (by rw [and_no (by rcases sd_23 with q | q; omega; exact q.2)]; exact Did.bad (by decide) (by omega) (by omega)), Or.inr ⟨by omega, by omega⟩⟩), (by omega), (by omega), (fun k hk => ((p40_1 k (fw_sub (by decide) hk)).trans ((p1_1 k (fw_sub (by decide) hk)).trans ((fun k hk => rfl) k hk))))⟩ dX5_readAnd_39
  · skip
    have tc10 := nu_eq c10
    obtain ⟨v45, ev45, tv45⟩ : ∃ v : Int32, Int32.ofInt (0) = v ∧ v.toInt = 0 := ⟨_, rfl, by decide +kernel⟩
    refine lv_iconst hx hb dX5_readAnd_12 ev45 ?_
    rw [← hQ]
    exact en_z Z S5 F1 (zo v45 (by omega)) ⟨(Or.inl ⟨by omega, (by rw [← pk_5]; omega), (by rw [(p1_1 4 (by decide))]; exact h4), po_1⟩), (by omega), (by omega), (fun k hk => ((p1_1 k (fw_sub (by decide) hk)).trans ((fun k hk => rfl) k hk)))⟩ dX5_readAnd_13

