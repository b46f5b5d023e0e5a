set_option maxHeartbeats 4000000 in
set_option maxRecDepth 100000 in
theorem k_X5_read_vr (l : Launch) (D : va_G) (cy : Nat → ClassId) {L : List Nat} {τ : Nat → Ro} {E : Ec} (hI : Inv TB cy L τ E) {G : Sg} {a0 : Nat} (ha0 : a0 ∈ L) (ta0 : τ a0 = (7, 0)) (a1 : Int32) (la1 : 0 ≤ a1.toInt) {qe : Nat} (hqe : qe ∈ L) (tqe : τ qe = (33, 0)) {qs : Nat} (hqs : qs ∈ L) (tqs : τ qs = (36, 0)) {qt : Nat} (hqt : qt ∈ L) (tqt : τ qt = (32, 0)) (hraw : ∀ b ∈ L, τ b ≠ (210, 0)) (hn : a1.toInt ≤ (fi E a0 1).toInt) : CtL1q G l yX5_read wsX5_read { frames := 10, cells := 5, slots := 262, locals := 225 } D cy L τ E [.ref a0, .int a1] a0 (inW [(7, 0), (34, 0), (35, 0), (36, 0), (33, 0)]) 5 262 (fun (v : Option Nat) (L' : List Nat) (τ' : Nat → Ro) (E' : Ec) => τ' a0 = (7, 0) ∧ (fi E' a0 1).toInt = 0 ∧ (∀ q : Nat, v = some q → q ∈ L' ∧ (τ' q).1 = 10) ∧ DidF (fi E' a0 4).toInt (fi E' a0 5).toInt (readI (mkB (fun i => (ai E qt i).toInt) a1.toInt.toNat) a1.toInt.toNat) ∧ ((v = none ∧ (fi E' a0 4).toInt ≠ 0) ∨ (v ≠ none ∧ (fi E' a0 4).toInt = 0))) := by
  generalize hP : (fun (v : Option Nat) (L' : List Nat) (τ' : Nat → Ro) (E' : Ec) => τ' a0 = (7, 0) ∧ (fi E' a0 1).toInt = 0 ∧ (∀ q : Nat, v = some q → q ∈ L' ∧ (τ' q).1 = 10) ∧ DidF (fi E' a0 4).toInt (fi E' a0 5).toInt (readI (mkB (fun i => (ai E qt i).toInt) a1.toInt.toNat) a1.toInt.toNat) ∧ ((v = none ∧ (fi E' a0 4).toInt ≠ 0) ∨ (v ≠ none ∧ (fi E' a0 4).toInt = 0))) = P
  intro sz
  refine staL (cc := cX5_read) (maxL := 4) hI (by decide) rfl (Nat.le_of_ble_eq_true rfl) (fun p e s m args below meth c ls hsz hnm Z SZ S0 hl => ?_)
  have hx := Z.1.1
  have hb := Z.1.2.1
  have hts := Z.1.2.2.2.2
  have F0_ : Fr L τ (inW [(7, 0), (34, 0), (35, 0), (36, 0), (33, 0)]) E E := Fr.refl
  have hl : lv_has ls 4 [(0, .ref a0), (1, .int a1)] := hl
  generalize hQ : MQ below _ args s 5 262 _ = QQ
  have kz_a0_1 := fi_rng (k := 1) hI ha0 ta0 rfl rfl
  have J66 : ∀ (n : Nat) (x2_66 : Int32) (x3_66 : Int32) (E_66 : Ec) (H_66 : Heap) (k_66 : List Loc) (l_66 : Array Slot), Now D TB cy (va_A (va_pl L E) sz) s L τ E_66 H_66 k_66 → Fr L τ (inW [(7, 0), (34, 0), (35, 0), (36, 0), (33, 0)]) E E_66 → (0 ≤ x2_66.toInt) → (x2_66.toInt ≤ 1) → (0 ≤ x3_66.toInt) → (x3_66.toInt ≤ 4) → (tx E_66 qt a0 2 = (mkB (fun i => (ai E qt i).toInt) a1.toInt.toNat)) → ((fi E_66 a0 2).toInt.toNat = a1.toInt.toNat) → ((x2_66.toInt = 1 ∧ x3_66.toInt ≤ 3 ∧ (fi E_66 a0 4).toInt = 0 ∧ (fi E_66 a0 8).toInt = x3_66.toInt ∧ (fi E_66 a0 9).toInt ≤ 16 * x3_66.toInt ∧ relsF (mkB (fun i => (ai E qt i).toInt) a1.toInt.toNat) a1.toInt.toNat (4 - x3_66.toInt.toNat) x3_66.toInt.toNat (fi E_66 a0 3).toInt.toNat = (readI (mkB (fun i => (ai E qt i).toInt) a1.toInt.toNat) a1.toInt.toNat)) ∨ (x2_66.toInt = 0 ∧ DidF (fi E_66 a0 4).toInt (fi E_66 a0 5).toInt (readI (mkB (fun i => (ai E qt i).toInt) a1.toInt.toNat) a1.toInt.toNat))) → (RdW E_66 a0 qe qs) → (∀ k : Nat, k ∉ ([1, 2, 3, 4, 5, 6, 7, 8, 9] : List Nat) → fi E_66 a0 k = fi E a0 k) → (0 ≤ (fi E_66 a0 1).toInt ∧ (fi E_66 a0 1).toInt ≤ 0) → (-2147483648 ≤ (fi E_66 a0 4).toInt ∧ (fi E_66 a0 4).toInt ≤ 2147483647) → (4 - x3_66.toInt).toNat < n → lv_has l_66 4 [(0, .ref a0), (2, .int x2_66), (3, .int x3_66)] → W p l e { frames := 10, cells := 5, slots := 262, locals := 225 } s m args below meth c H_66 k_66 0 0 QQ (F0 m 66 l_66 []) := by
    intro n
    induction n with
    | zero => intro x2_66 x3_66 E_66 H_66 k_66 l_66 S_66 F_66 z1 z2 z3 z4 z5 z6 z7 z8 z9 z10 z11 hm hl_66; exact absurd hm (Nat.not_lt_zero _)
    | succ n ih =>
      intro x2_66 x3_66 E_66 H_66 k_66 l_66 S_66 F_66 z1 z2 z3 z4 z5 z6 z7 z8 z9 z10 z11 hm hl_66
      have ih_66 := ih
      refine lv_iload_n hx hb dX5_read_66 rfl (lv_at hl_66 2 rfl) ?_
      obtain ⟨v12, ev12, tv12⟩ : ∃ v : Int32, Int32.ofInt (4) = v ∧ v.toInt = 4 := ⟨_, rfl, by decide +kernel⟩
      refine lv_iconst hx hb dX5_read_67 ev12 ?_
      refine lv_icmp_ge (tgt := 105) hx hb dX5_read_68 (by decide) (fun c13 => ?_) (fun c13 => ?_)
      · skip
        have tc13 := nu_le c13
        refine lv_aload_n hx hb dX5_read_105 rfl (lv_at hl_66 0 rfl) ?_
        refine tr_geti Z.1 Z.2.2.2.1 S_66.1 S_66.2 ha0 ta0 rfl rfl (fun _ h => List.mem_cons_of_mem _ (List.mem_append_left _ (List.mem_append_right _ h))) 4 (by decide) rfl (hts _ (List.mem_of_getElem? (i := 8) rfl)) dX5_read_106 (fun v14 ev14 lv14 uv14 => ?_)
        have wv14 : v14 = (fi E_66 a0 4) := ev14.symm.trans rfl
        have xv14 : v14.toInt = (fi E_66 a0 4).toInt := by rw [wv14]
        refine lv_if_ne (tgt := 123) hx hb dX5_read_109 (by decide) (fun c15 => ?_) (fun c15 => ?_)
        · skip
          have tc15 := nu_ne c15
          have uc15 : (0 : Int32).toInt = 0 := rfl
          refine lv_null hx hb dX5_read_123 ?_
          rw [← hQ]
          refine W.widen (k := 5) (n := 262) (Nat.le_of_ble_eq_true rfl) (Nat.le_of_ble_eq_true rfl) ?_
          have dz_ : DidF (fi E_66 a0 4).toInt (fi E_66 a0 5).toInt (readI (mkB (fun i => (ai E qt i).toInt) a1.toInt.toNat) a1.toInt.toNat) := (by rcases z7 with q | q; omega; exact q.2)
          exact en_qL (v := none) (post := P) Z (Or.inl ⟨_, rfl⟩) S_66 (GL.fr F_66) (by rw [← hP]; exact ⟨ta0, (by omega), (fun _ h => nomatch h), dz_, Or.inl ⟨rfl, by omega⟩⟩) dX5_read_124
        · skip
          have tc15 := nu_eq c15
          have uc15 : (0 : Int32).toInt = 0 := rfl
          have hR_ : RdW E_66 a0 qe qs := z8
          have fed_ : (fi E_66 a0 1).toInt = 0 := (by omega)
          have dz_ : DidF (fi E_66 a0 4).toInt (fi E_66 a0 5).toInt (readI (mkB (fun i => (ai E qt i).toInt) a1.toInt.toNat) a1.toInt.toNat) := (by rcases z7 with q | q; omega; exact q.2)
          have d4_ : (fi E_66 a0 4).toInt = 0 := by omega
          refine tr_new Z.1 Z.2.2.2.1 Z.2.2.2.2.2 S_66 (fun _ h => List.mem_cons_of_mem _ (List.mem_append_right _ h)) tyX1 tyX1_ok (hts _ (List.mem_of_getElem? (i := 13) rfl)) (hts _ (List.mem_of_getElem? (i := 14) rfl)) (hts _ (List.mem_of_getElem? (i := 15) rfl)) (ci := 1) rfl (fs := [.int 0, .int 0, .null, .null, .null, .null]) (by decide +kernel) (210, 0) rfl rfl rfl hraw (Nat.le_of_ble_eq_true rfl) (Nat.le_of_ble_eq_true rfl) dX5_read_112 (fun L2 T2 E2 q2 H2 S2 P2 he2 => ?_)
          refine lv_dup hx hb dX5_read_115 rfl ?_
          refine lv_aload_n hx hb dX5_read_116 rfl (lv_at hl_66 0 rfl) ?_
          have fi2 : ∀ k : Nat, fi E2 a0 k = fi E_66 a0 k := fun k => by simp only [fi, fv, P2.2.2.1 a0 ha0]
          have hR2 : RdW E2 a0 qe qs := RdW.same hR_ (P2.2.2.1 _ hqe) (P2.2.2.1 _ hqs) (fi2 7) (fi2 8) (fi2 9)
          refine tc_LI Z.1 Z.2.2.2.1 Z.2.2.2.2.1 Z.2.2.2.2.2 SZ S2 (k_X1_init l D cy S2.2 P2.2.2.2.1 P2.2.2.2.2.1 he2 (P2.1 _ ha0) ((P2.2.1 _ ha0).trans ta0) (P2.1 _ hqe) ((P2.2.1 _ hqe).trans tqe) (P2.1 _ hqs) ((P2.2.1 _ hqs).trans tqs) hR2) (cwI 1 hts gX5_read_X1_init rfl rfl rfl (hts _ (List.mem_of_getElem? (i := 15) rfl)) (hts _ (List.mem_of_getElem? (i := 137) rfl)) (hts _ (List.mem_of_getElem? (i := 138) rfl)) rfl (by decide +kernel) ⟨Nat.le_of_ble_eq_true rfl, Nat.le_of_ble_eq_true rfl⟩) rfl hl_66.1 rfl (Nat.le_of_ble_eq_true rfl) dX5_read_117 ⟨Nat.le_of_ble_eq_true rfl, Nat.le_of_ble_eq_true rfl⟩ (fun L3 T3 E3 H3 k3 S3 G3 p3 => ?_)
          refine lv_goto (tgt := 124) hx hb dX5_read_120 (by decide) ?_
          rw [← hQ]
          obtain ⟨g1, g2, g3⟩ := GL.law (x := a0) F_66 P2 G3 p3
          have fi3 : ∀ k : Nat, fi E3 a0 k = fi E_66 a0 k := fun k => by simp only [fi, fv, g3 a0 ha0]
          exact en_qL (v := some q2) (post := P) Z (Or.inl ⟨_, rfl⟩) S3 g1 (by rw [← hP]; exact ⟨(g2 a0 ha0).trans ta0, by rw [fi3 1]; exact fed_, (fun q h => by cases h; exact ⟨G3.1 _ P2.2.2.2.1, p3⟩), by rw [fi3 4, fi3 5]; exact dz_, Or.inr ⟨(fun h => nomatch h), by rw [fi3 4]; exact d4_⟩⟩) dX5_read_124
      · skip
        have tc13 := nu_nle c13
        refine lv_iload_n hx hb dX5_read_71 rfl (lv_at hl_66 1 rfl) ?_
        refine lv_if_eq (tgt := 105) hx hb dX5_read_72 (by decide) (fun c16 => ?_) (fun c16 => ?_)
        · skip
          have tc16 := nu_eq c16
          have uc16 : (0 : Int32).toInt = 0 := rfl
          refine lv_aload_n hx hb dX5_read_105 rfl (lv_at hl_66 0 rfl) ?_
          refine tr_geti Z.1 Z.2.2.2.1 S_66.1 S_66.2 ha0 ta0 rfl rfl (fun _ h => List.mem_cons_of_mem _ (List.mem_append_left _ (List.mem_append_right _ h))) 4 (by decide) rfl (hts _ (List.mem_of_getElem? (i := 8) rfl)) dX5_read_106 (fun v17 ev17 lv17 uv17 => ?_)
          have wv17 : v17 = (fi E_66 a0 4) := ev17.symm.trans rfl
          have xv17 : v17.toInt = (fi E_66 a0 4).toInt := by rw [wv17]
          refine lv_if_ne (tgt := 123) hx hb dX5_read_109 (by decide) (fun c18 => ?_) (fun c18 => ?_)
          · skip
            have tc18 := nu_ne c18
            have uc18 : (0 : Int32).toInt = 0 := rfl
            refine lv_null hx hb dX5_read_123 ?_
            rw [← hQ]
            refine W.widen (k := 5) (n := 262) (Nat.le_of_ble_eq_true rfl) (Nat.le_of_ble_eq_true rfl) ?_
            have dz_ : DidF (fi E_66 a0 4).toInt (fi E_66 a0 5).toInt (readI (mkB (fun i => (ai E qt i).toInt) a1.toInt.toNat) a1.toInt.toNat) := (by rcases z7 with q | q; omega; exact q.2)
            exact en_qL (v := none) (post := P) Z (Or.inl ⟨_, rfl⟩) S_66 (GL.fr F_66) (by rw [← hP]; exact ⟨ta0, (by omega), (fun _ h => nomatch h), dz_, Or.inl ⟨rfl, by omega⟩⟩) dX5_read_124
          · skip
            have tc18 := nu_eq c18
            have uc18 : (0 : Int32).toInt = 0 := rfl
            have hR_ : RdW E_66 a0 qe qs := z8
            have fed_ : (fi E_66 a0 1).toInt = 0 := (by omega)
            have dz_ : DidF (fi E_66 a0 4).toInt (fi E_66 a0 5).toInt (readI (mkB (fun i => (ai E qt i).toInt) a1.toInt.toNat) a1.toInt.toNat) := (by rcases z7 with q | q; omega; exact q.2)
            have d4_ : (fi E_66 a0 4).toInt = 0 := by omega
            refine tr_new Z.1 Z.2.2.2.1 Z.2.2.2.2.2 S_66 (fun _ h => List.mem_cons_of_mem _ (List.mem_append_right _ h)) tyX1 tyX1_ok (hts _ (List.mem_of_getElem? (i := 13) rfl)) (hts _ (List.mem_of_getElem? (i := 14) rfl)) (hts _ (List.mem_of_getElem? (i := 15) rfl)) (ci := 1) rfl (fs := [.int 0, .int 0, .null, .null, .null, .null]) (by decide +kernel) (210, 0) rfl rfl rfl hraw (Nat.le_of_ble_eq_true rfl) (Nat.le_of_ble_eq_true rfl) dX5_read_112 (fun L2 T2 E2 q2 H2 S2 P2 he2 => ?_)
            refine lv_dup hx hb dX5_read_115 rfl ?_
            refine lv_aload_n hx hb dX5_read_116 rfl (lv_at hl_66 0 rfl) ?_
            have fi2 : ∀ k : Nat, fi E2 a0 k = fi E_66 a0 k := fun k => by simp only [fi, fv, P2.2.2.1 a0 ha0]
            have hR2 : RdW E2 a0 qe qs := RdW.same hR_ (P2.2.2.1 _ hqe) (P2.2.2.1 _ hqs) (fi2 7) (fi2 8) (fi2 9)
            refine tc_LI Z.1 Z.2.2.2.1 Z.2.2.2.2.1 Z.2.2.2.2.2 SZ S2 (k_X1_init l D cy S2.2 P2.2.2.2.1 P2.2.2.2.2.1 he2 (P2.1 _ ha0) ((P2.2.1 _ ha0).trans ta0) (P2.1 _ hqe) ((P2.2.1 _ hqe).trans tqe) (P2.1 _ hqs) ((P2.2.1 _ hqs).trans tqs) hR2) (cwI 1 hts gX5_read_X1_init rfl rfl rfl (hts _ (List.mem_of_getElem? (i := 15) rfl)) (hts _ (List.mem_of_getElem? (i := 137) rfl)) (hts _ (List.mem_of_getElem? (i := 138) rfl)) rfl (by decide +kernel) ⟨Nat.le_of_ble_eq_true rfl, Nat.le_of_ble_eq_true rfl⟩) rfl hl_66.1 rfl (Nat.le_of_ble_eq_true rfl) dX5_read_117 ⟨Nat.le_of_ble_eq_true rfl, Nat.le_of_ble_eq_true rfl⟩ (fun L3 T3 E3 H3 k3 S3 G3 p3 => ?_)
            refine lv_goto (tgt := 124) hx hb dX5_read_120 (by decide) ?_
            rw [← hQ]
            obtain ⟨g1, g2, g3⟩ := GL.law (x := a0) F_66 P2 G3 p3
            have fi3 : ∀ k : Nat, fi E3 a0 k = fi E_66 a0 k := fun k => by simp only [fi, fv, g3 a0 ha0]
            exact en_qL (v := some q2) (post := P) Z (Or.inl ⟨_, rfl⟩) S3 g1 (by rw [← hP]; exact ⟨(g2 a0 ha0).trans ta0, by rw [fi3 1]; exact fed_, (fun q h => by cases h; exact ⟨G3.1 _ P2.2.2.2.1, p3⟩), by rw [fi3 4, fi3 5]; exact dz_, Or.inr ⟨(fun h => nomatch h), by rw [fi3 4]; exact d4_⟩⟩) dX5_read_124
        · skip
          have tc16 := nu_ne c16
          have uc16 : (0 : Int32).toInt = 0 := rfl
          have a66 : x3_66.toInt ≤ 3 ∧ (fi E_66 a0 4).toInt = 0 ∧ (fi E_66 a0 8).toInt = x3_66.toInt ∧ (fi E_66 a0 9).toInt ≤ 16 * x3_66.toInt ∧ relsF (mkB (fun i => (ai E qt i).toInt) a1.toInt.toNat) a1.toInt.toNat (4 - x3_66.toInt.toNat) x3_66.toInt.toNat (fi E_66 a0 3).toInt.toNat = (readI (mkB (fun i => (ai E qt i).toInt) a1.toInt.toNat) a1.toInt.toNat) := by rcases z7 with q | q; exact q.2; omega
          have a66e : 4 - x3_66.toInt.toNat = (3 - x3_66.toInt.toNat) + 1 := by omega
          have a66s := a66.2.2.2.2
          rw [a66e] at a66s
          have pz66 : (fi E_66 a0 3).toInt = (((fi E_66 a0 3).toInt.toNat : Nat) : Int) := by have q := fi_rng (k := 3) S_66.2 ha0 ta0 rfl rfl; omega
          refine lv_aload_n hx hb dX5_read_75 rfl (lv_at hl_66 0 rfl) ?_
          have fe_76a : (fi E_66 a0 2).toInt.toNat = a1.toInt.toNat := z6
          have tq_76a : tx E_66 qt a0 2 = (mkB (fun i => (ai E qt i).toInt) a1.toInt.toNat) := z5
          have po_76a : (fi E_66 a0 3).toInt = (((fi E_66 a0 3).toInt.toNat : Nat) : Int) := pz66
          refine tc1_vv Z.1 Z.2.2.2.1 Z.2.2.2.2.1 Z.2.2.2.2.2 SZ S_66.1 S_66.2 ha0 ta0 rfl rfl (k_X5_readComparison_vr l D cy S_66.2 ha0 ta0 hqe tqe hqs tqs hqt tqt a66.2.1 (by omega) (by omega) z8) (cwV 0 hts gX5_read_X5_readComparison rfl rfl rfl (by decide +kernel) ⟨Nat.le_of_ble_eq_true rfl, Nat.le_of_ble_eq_true rfl⟩) rfl hl_66.1 rfl (Nat.le_of_ble_eq_true rfl) dX5_read_76 ⟨Nat.zero_le _, Nat.zero_le _⟩ (fun E19 H20 k21 W19 I19 G19 p19 => ?_)
          obtain ⟨p19_0, p19_1, p19_2, p19_3⟩ := p19
          have S19 : Now D TB cy (va_A (va_pl L E) sz) s L τ E19 H20 k21 := ⟨W19, I19⟩
          have F19 : Fr L τ (inW [(7, 0), (34, 0), (35, 0), (36, 0), (33, 0)]) E E19 := F_66.trans (G19.mono (inW_mono (by decide)))
          have dc_76 : Did (fi E19 a0 4).toInt (fi E19 a0 5).toInt (fi E19 a0 3).toInt (compI (mkB (fun i => (ai E qt i).toInt) a1.toInt.toNat) a1.toInt.toNat (fi E_66 a0 3).toInt.toNat) := by have q := p19_0; rw [tq_76a, fe_76a] at q; exact q
          have pt_76 := p19_1
          have kp_76f := fi_rng (k := 4) S19.2 ha0 ta0 rfl rfl
          refine lv_aload_n hx hb dX5_read_79 rfl (lv_at hl_66 0 rfl) ?_
          refine tr_geti Z.1 Z.2.2.2.1 S19.1 S19.2 ha0 ta0 rfl rfl (fun _ h => List.mem_cons_of_mem _ (List.mem_append_left _ (List.mem_append_right _ h))) 4 (by decide) rfl (hts _ (List.mem_of_getElem? (i := 8) rfl)) dX5_read_80 (fun v23 ev23 lv23 uv23 => ?_)
          have wv23 : v23 = (fi E19 a0 4) := ev23.symm.trans rfl
          have xv23 : v23.toInt = (fi E19 a0 4).toInt := by rw [wv23]
          refine lv_if_ne (tgt := 97) hx hb dX5_read_83 (by decide) (fun c24 => ?_) (fun c24 => ?_)
          · skip
            have tc24 := nu_ne c24
            have uc24 : (0 : Int32).toInt = 0 := rfl
            obtain ⟨v25, ev25, tv25⟩ : ∃ v : Int32, Int32.ofInt (0) = v ∧ v.toInt = 0 := ⟨_, rfl, by decide +kernel⟩
            refine lv_iconst hx hb dX5_read_97 ev25 ?_
            refine lv_istore_n (lv' := [(2, .int v25), (0, .ref a0), (3, .int x3_66)]) hx hb dX5_read_98 rfl hl_66 (by decide) rfl (fun l26 hl27 => ?_)
            obtain ⟨v28, ev28⟩ : ∃ y : Int32, x3_66 + Int32.ofInt (1) = y := ⟨_, rfl⟩
            have tv28 : v28.toInt = x3_66.toInt + (1) := by rw [← ev28]; exact (fb_addI (by rw [show (Int32.ofInt (1)).toInt = 1 from by decide +kernel]; omega) (by rw [show (Int32.ofInt (1)).toInt = 1 from by decide +kernel]; omega)).trans (by rw [show (Int32.ofInt (1)).toInt = 1 from by decide +kernel])
            refine lv_iinc (v := v28) (lv' := [(3, .int v28), (2, .int v25), (0, .ref a0)]) hx hb dX5_read_99 hl27 (k := 2) rfl ev28 (by decide) rfl (fun l29 hl30 => ?_)
            refine lv_goto (tgt := 66) hx hb dX5_read_102 (by decide) ?_
            exact ih_66 v25 v28 E19 H20 k21 l29 S19 F19 (by omega) (by omega) (by omega) (by omega) ((tx_same (G19 qt hqt (by rw [tqt]; rfl)) (p19_2 2 (by decide))).trans z5) (by rw [(p19_2 2 (by decide))]; exact z6) (Or.inr ⟨by omega, by rw [← a66s, rels_bad (fun z => absurd (dc_76.1.trans z) (by omega))]; exact dc_76.f⟩) p19_3 (fun k hk => ((p19_2 k (fw_sub (by decide) hk)).trans (z9 k hk))) (by rw [((p19_2 1 (by decide)).trans rfl)]; omega) (by rw [ev23]; omega) (by omega) (lv_sub hl30 [2, 1, 0] rfl)
          · skip
            have tc24 := nu_eq c24
            have uc24 : (0 : Int32).toInt = 0 := rfl
            have r0_76 : (compI (mkB (fun i => (ai E qt i).toInt) a1.toInt.toNat) a1.toInt.toNat (fi E_66 a0 3).toInt.toNat).1 = 0 := dc_76.1.symm.trans (by omega)
            have pr_76 : (fi E19 a0 3).toInt = (((compI (mkB (fun i => (ai E qt i).toInt) a1.toInt.toNat) a1.toInt.toNat (fi E_66 a0 3).toInt.toNat).2.2 : Nat) : Int) := dc_76.2.2 r0_76
            have pu_76 := pt_76 (by omega)
            refine lv_aload_n hx hb dX5_read_86 rfl (lv_at hl_66 0 rfl) ?_
            have fe_87a : (fi E19 a0 2).toInt.toNat = a1.toInt.toNat := by rw [(p19_2 2 (by decide))]; exact z6
            have tq_87a : tx E19 qt a0 2 = (mkB (fun i => (ai E qt i).toInt) a1.toInt.toNat) := (tx_same (G19 qt hqt (by rw [tqt]; rfl)) (p19_2 2 (by decide))).trans z5
            have po_87a : (fi E19 a0 3).toInt = (((compI (mkB (fun i => (ai E qt i).toInt) a1.toInt.toNat) a1.toInt.toNat (fi E_66 a0 3).toInt.toNat).2.2 : Nat) : Int) := pr_76
            have b4_87 : (fi E19 a0 4).toInt = 0 := by omega
            refine tc1_vi Z.1 Z.2.2.2.1 Z.2.2.2.2.1 Z.2.2.2.2.2 SZ S19.1 S19.2 ha0 ta0 rfl rfl (k_X5_readAnd_vr l D cy S19.2 ha0 ta0 hqt tqt b4_87) (cwV 0 hts gX5_read_X5_readAnd rfl rfl rfl (by decide +kernel) ⟨Nat.le_of_ble_eq_true rfl, Nat.le_of_ble_eq_true rfl⟩) rfl hl_66.1 rfl (Nat.le_of_ble_eq_true rfl) dX5_read_87 ⟨Nat.zero_le _, Nat.zero_le _⟩ (fun v34 E31 H32 k33 W31 I31 G31 p31 => ?_)
            obtain ⟨p31_0, p31_1, p31_2, p31_3⟩ := p31
            have S31 : Now D TB cy (va_A (va_pl L E) sz) s L τ E31 H32 k33 := ⟨W31, I31⟩
            have F31 : Fr L τ (inW [(7, 0), (34, 0), (35, 0), (36, 0), (33, 0)]) E E31 := F19.trans (G31.mono (inW_mono (by decide)))
            have an_87 : (v34.toInt = 0 ∧ pkI (mkB (fun i => (ai E qt i).toInt) a1.toInt.toNat) a1.toInt.toNat (compI (mkB (fun i => (ai E qt i).toInt) a1.toInt.toNat) a1.toInt.toNat (fi E_66 a0 3).toInt.toNat).2.2 = -1 ∧ (fi E31 a0 4).toInt = 0) ∨ (pkI (mkB (fun i => (ai E qt i).toInt) a1.toInt.toNat) a1.toInt.toNat (compI (mkB (fun i => (ai E qt i).toInt) a1.toInt.toNat) a1.toInt.toNat (fi E_66 a0 3).toInt.toNat).2.2 ≠ -1 ∧ Did (fi E31 a0 4).toInt (fi E31 a0 5).toInt (fi E31 a0 3).toInt (andI (mkB (fun i => (ai E qt i).toInt) a1.toInt.toNat) a1.toInt.toNat (x3_66.toInt.toNat + 1) (compI (mkB (fun i => (ai E qt i).toInt) a1.toInt.toNat) a1.toInt.toNat (fi E_66 a0 3).toInt.toNat).2.2) ∧ ((v34.toInt = 1 ∧ (fi E31 a0 4).toInt = 0) ∨ (v34.toInt = 0 ∧ (fi E31 a0 4).toInt ≠ 0))) := by have q := p31_0; rw [tq_87a, fe_87a, show (fi E19 a0 3).toInt.toNat = (compI (mkB (fun i => (ai E qt i).toInt) a1.toInt.toNat) a1.toInt.toNat (fi E_66 a0 3).toInt.toNat).2.2 from by omega] at q; rw [comp_sk r0_76, show (fi E19 a0 8).toInt.toNat = x3_66.toInt.toNat + 1 from by omega] at q; rcases q with q | q; exact Or.inl ⟨q.1, q.2.1, q.2.2.1⟩; exact Or.inr q
            have kp_87f := fi_rng (k := 4) S31.2 ha0 ta0 rfl rfl
            refine lv_if_eq (tgt := 97) hx hb dX5_read_90 (by decide) (fun c35 => ?_) (fun c35 => ?_)
            · skip
              have tc35 := nu_eq c35
              have uc35 : (0 : Int32).toInt = 0 := rfl
              obtain ⟨v36, ev36, tv36⟩ : ∃ v : Int32, Int32.ofInt (0) = v ∧ v.toInt = 0 := ⟨_, rfl, by decide +kernel⟩
              refine lv_iconst hx hb dX5_read_97 ev36 ?_
              refine lv_istore_n (lv' := [(2, .int v36), (0, .ref a0), (3, .int x3_66)]) hx hb dX5_read_98 rfl hl_66 (by decide) rfl (fun l37 hl38 => ?_)
              obtain ⟨v39, ev39⟩ : ∃ y : Int32, x3_66 + Int32.ofInt (1) = y := ⟨_, rfl⟩
              have tv39 : v39.toInt = x3_66.toInt + (1) := by rw [← ev39]; exact (fb_addI (by rw [show (Int32.ofInt (1)).toInt = 1 from by decide +kernel]; omega) (by rw [show (Int32.ofInt (1)).toInt = 1 from by decide +kernel]; omega)).trans (by rw [show (Int32.ofInt (1)).toInt = 1 from by decide +kernel])
              refine lv_iinc (v := v39) (lv' := [(3, .int v39), (2, .int v36), (0, .ref a0)]) hx hb dX5_read_99 hl38 (k := 2) rfl ev39 (by decide) rfl (fun l40 hl41 => ?_)
              refine lv_goto (tgt := 66) hx hb dX5_read_102 (by decide) ?_
              exact ih_66 v36 v39 E31 H32 k33 l40 S31 F31 (by omega) (by omega) (by omega) (by omega) ((tx_same ((G31 qt hqt (by rw [tqt]; rfl)).trans (G19 qt hqt (by rw [tqt]; rfl))) ((p31_3 2 (by decide)).trans (p19_2 2 (by decide)))).trans z5) (by rw [((p31_3 2 (by decide)).trans (p19_2 2 (by decide)))]; exact z6) (Or.inr ⟨by omega, by rcases an_87 with q | q; rw [← a66s, rels_end (fun z => z r0_76) q.2.1]; exact DidF.ok q.2.2; rcases q.2.2 with w | w; omega; rw [← a66s, rels_and (fun z => z r0_76) q.1 (fun z => w.2 (q.2.1.1.trans z))]; exact q.2.1.f⟩) (RdW.same p19_3 (G31 qe hqe (by rw [tqe]; rfl)) (G31 qs hqs (by rw [tqs]; rfl)) (p31_3 7 (by decide)) (p31_3 8 (by decide)) (p31_3 9 (by decide))) (fun k hk => ((p31_3 k (fw_sub (by decide) hk)).trans ((p19_2 k (fw_sub (by decide) hk)).trans (z9 k hk)))) (by rw [((p31_3 1 (by decide)).trans ((p19_2 1 (by decide)).trans rfl))]; omega) (by omega) (by omega) (lv_sub hl41 [2, 1, 0] rfl)
            · skip
              have tc35 := nu_ne c35
              have uc35 : (0 : Int32).toInt = 0 := rfl
              have an_93 : ¬ pkI (mkB (fun i => (ai E qt i).toInt) a1.toInt.toNat) a1.toInt.toNat (compI (mkB (fun i => (ai E qt i).toInt) a1.toInt.toNat) a1.toInt.toNat (fi E_66 a0 3).toInt.toNat).2.2 = -1 ∧ (andI (mkB (fun i => (ai E qt i).toInt) a1.toInt.toNat) a1.toInt.toNat (x3_66.toInt.toNat + 1) (compI (mkB (fun i => (ai E qt i).toInt) a1.toInt.toNat) a1.toInt.toNat (fi E_66 a0 3).toInt.toNat).2.2).1 = 0 ∧ (fi E31 a0 4).toInt = 0 ∧ (fi E31 a0 3).toInt = (((andI (mkB (fun i => (ai E qt i).toInt) a1.toInt.toNat) a1.toInt.toNat (x3_66.toInt.toNat + 1) (compI (mkB (fun i => (ai E qt i).toInt) a1.toInt.toNat) a1.toInt.toNat (fi E_66 a0 3).toInt.toNat).2.2).2.2 : Nat) : Int) := by rcases an_87 with q | q; omega; rcases q.2.2 with w | w; have z : (andI (mkB (fun i => (ai E qt i).toInt) a1.toInt.toNat) a1.toInt.toNat (x3_66.toInt.toNat + 1) (compI (mkB (fun i => (ai E qt i).toInt) a1.toInt.toNat) a1.toInt.toNat (fi E_66 a0 3).toInt.toNat).2.2).1 = 0 := q.2.1.1.symm.trans w.2; exact ⟨q.1, z, w.2, q.2.1.2.2 z⟩; omega
              obtain ⟨v42, ev42, tv42⟩ : ∃ v : Int32, Int32.ofInt (1) = v ∧ v.toInt = 1 := ⟨_, rfl, by decide +kernel⟩
              refine lv_iconst hx hb dX5_read_93 ev42 ?_
              refine lv_goto (tgt := 98) hx hb dX5_read_94 (by decide) ?_
              refine lv_istore_n (lv' := [(2, .int v42), (0, .ref a0), (3, .int x3_66)]) hx hb dX5_read_98 rfl hl_66 (by decide) rfl (fun l43 hl44 => ?_)
              obtain ⟨v45, ev45⟩ : ∃ y : Int32, x3_66 + Int32.ofInt (1) = y := ⟨_, rfl⟩
              have tv45 : v45.toInt = x3_66.toInt + (1) := by rw [← ev45]; exact (fb_addI (by rw [show (Int32.ofInt (1)).toInt = 1 from by decide +kernel]; omega) (by rw [show (Int32.ofInt (1)).toInt = 1 from by decide +kernel]; omega)).trans (by rw [show (Int32.ofInt (1)).toInt = 1 from by decide +kernel])
              refine lv_iinc (v := v45) (lv' := [(3, .int v45), (2, .int v42), (0, .ref a0)]) hx hb dX5_read_99 hl44 (k := 2) rfl ev45 (by decide) rfl (fun l46 hl47 => ?_)
              refine lv_goto (tgt := 66) hx hb dX5_read_102 (by decide) ?_
              exact ih_66 v42 v45 E31 H32 k33 l46 S31 F31 (by omega) (by omega) (by omega) (by omega) ((tx_same ((G31 qt hqt (by rw [tqt]; rfl)).trans (G19 qt hqt (by rw [tqt]; rfl))) ((p31_3 2 (by decide)).trans (p19_2 2 (by decide)))).trans z5) (by rw [((p31_3 2 (by decide)).trans (p19_2 2 (by decide)))]; exact z6) (Or.inl ⟨by omega, by have q := and_lt an_93.2.1; omega, by omega, by rw [(p31_3 8 (by decide))]; omega, by rw [(p31_3 9 (by decide))]; omega, by rw [show (fi E31 a0 3).toInt.toNat = (andI (mkB (fun i => (ai E qt i).toInt) a1.toInt.toNat) a1.toInt.toNat (x3_66.toInt.toNat + 1) (compI (mkB (fun i => (ai E qt i).toInt) a1.toInt.toNat) a1.toInt.toNat (fi E_66 a0 3).toInt.toNat).2.2).2.2 from by omega, show 4 - v45.toInt.toNat = 3 - x3_66.toInt.toNat from by omega, show v45.toInt.toNat = x3_66.toInt.toNat + 1 from by omega, ← a66s, rels_go (fun z => z r0_76) an_93.1 (fun z => z an_93.2.1)]⟩) (RdW.same p19_3 (G31 qe hqe (by rw [tqe]; rfl)) (G31 qs hqs (by rw [tqs]; rfl)) (p31_3 7 (by decide)) (p31_3 8 (by decide)) (p31_3 9 (by decide))) (fun k hk => ((p31_3 k (fw_sub (by decide) hk)).trans ((p19_2 k (fw_sub (by decide) hk)).trans (z9 k hk)))) (by rw [((p31_3 1 (by decide)).trans ((p19_2 1 (by decide)).trans rfl))]; omega) (by omega) (by omega) (lv_sub hl47 [2, 1, 0] rfl)
  refine lv_aload_n hx hb dX5_read_0 rfl (lv_at hl 0 rfl) ?_
  refine lv_iload_n hx hb dX5_read_1 rfl (lv_at hl 1 rfl) ?_
  refine lv_aload_n hx hb dX5_read_2 rfl (lv_at hl 0 rfl) ?_
  refine tr_geti Z.1 Z.2.2.2.1 S0.1 S0.2 ha0 ta0 rfl rfl (fun _ h => List.mem_cons_of_mem _ (List.mem_append_left _ (List.mem_append_right _ h))) 1 (by decide) rfl (hts _ (List.mem_of_getElem? (i := 1) rfl)) dX5_read_3 (fun v48 ev48 lv48 uv48 => ?_)
  have wv48 : v48 = (fi E a0 1) := ev48.symm.trans rfl
  have xv48 : v48.toInt = (fi E a0 1).toInt := by rw [wv48]
  refine va_mmin hx hb (Z.1.2.2.1.trans hl.1.symm) Z.1.2.2.2.1 (hts _ (List.mem_of_getElem? (i := 2) rfl)) (hts _ (List.mem_of_getElem? (i := 3) rfl)) (hts _ (List.mem_of_getElem? (i := 4) rfl)) (hts _ (List.mem_of_getElem? (i := 5) rfl)) (Nat.le_of_ble_eq_true rfl) (Nat.le_of_ble_eq_true rfl) (Nat.zero_le _) (Nat.zero_le _) dX5_read_6 ?_
  refine lv_topi (fun v49 ev49 => ?_)
  have tv49 := nu_min ev49
  refine tr_puti Z.1 Z.2.2.2.1 S0.1 S0.2 ha0 ta0 rfl rfl (fun _ h => List.mem_cons_of_mem _ (List.mem_append_left _ (List.mem_append_right _ h))) tyX5_ok nmX5 2 (by decide) rfl rfl rfl (hts _ (List.mem_of_getElem? (i := 6) rfl)) dX5_read_9 (by omega) (by omega) (fun E50 H51 k52 W50 I50 P50 => ?_)
  have S50 : Now D TB cy (va_A (va_pl L E) sz) s L τ E50 H51 k52 := ⟨W50, I50⟩
  have F50 : Fr L τ (inW [(7, 0), (34, 0), (35, 0), (36, 0), (33, 0)]) E E50 := Fr.put F0_ P50 ta0 rfl
  refine lv_aload_n hx hb dX5_read_12 rfl (lv_at hl 0 rfl) ?_
  obtain ⟨v53, ev53, tv53⟩ : ∃ v : Int32, Int32.ofInt (0) = v ∧ v.toInt = 0 := ⟨_, rfl, by decide +kernel⟩
  refine lv_iconst hx hb dX5_read_13 ev53 ?_
  refine tr_puti Z.1 Z.2.2.2.1 S50.1 S50.2 ha0 ta0 rfl rfl (fun _ h => List.mem_cons_of_mem _ (List.mem_append_left _ (List.mem_append_right _ h))) tyX5_ok nmX5 1 (by decide) rfl rfl rfl (hts _ (List.mem_of_getElem? (i := 1) rfl)) dX5_read_14 (by omega) (by omega) (fun E54 H55 k56 W54 I54 P54 => ?_)
  have S54 : Now D TB cy (va_A (va_pl L E) sz) s L τ E54 H55 k56 := ⟨W54, I54⟩
  have F54 : Fr L τ (inW [(7, 0), (34, 0), (35, 0), (36, 0), (33, 0)]) E E54 := Fr.put F50 P54 ta0 rfl
  refine lv_aload_n hx hb dX5_read_17 rfl (lv_at hl 0 rfl) ?_
  obtain ⟨v57, ev57, tv57⟩ : ∃ v : Int32, Int32.ofInt (0) = v ∧ v.toInt = 0 := ⟨_, rfl, by decide +kernel⟩
  refine lv_iconst hx hb dX5_read_18 ev57 ?_
  refine tr_puti Z.1 Z.2.2.2.1 S54.1 S54.2 ha0 ta0 rfl rfl (fun _ h => List.mem_cons_of_mem _ (List.mem_append_left _ (List.mem_append_right _ h))) tyX5_ok nmX5 3 (by decide) rfl rfl rfl (hts _ (List.mem_of_getElem? (i := 7) rfl)) dX5_read_19 (by omega) (by omega) (fun E58 H59 k60 W58 I58 P58 => ?_)
  have S58 : Now D TB cy (va_A (va_pl L E) sz) s L τ E58 H59 k60 := ⟨W58, I58⟩
  have F58 : Fr L τ (inW [(7, 0), (34, 0), (35, 0), (36, 0), (33, 0)]) E E58 := Fr.put F54 P58 ta0 rfl
  refine lv_aload_n hx hb dX5_read_22 rfl (lv_at hl 0 rfl) ?_
  obtain ⟨v61, ev61, tv61⟩ : ∃ v : Int32, Int32.ofInt (0) = v ∧ v.toInt = 0 := ⟨_, rfl, by decide +kernel⟩
  refine lv_iconst hx hb dX5_read_23 ev61 ?_
  refine tr_puti Z.1 Z.2.2.2.1 S58.1 S58.2 ha0 ta0 rfl rfl (fun _ h => List.mem_cons_of_mem _ (List.mem_append_left _ (List.mem_append_right _ h))) tyX5_ok nmX5 4 (by decide) rfl rfl rfl (hts _ (List.mem_of_getElem? (i := 8) rfl)) dX5_read_24 (by have := fb_rng v61; omega) (by have := fb_rng v61; omega) (fun E62 H63 k64 W62 I62 P62 => ?_)
  have S62 : Now D TB cy (va_A (va_pl L E) sz) s L τ E62 H63 k64 := ⟨W62, I62⟩
  have F62 : Fr L τ (inW [(7, 0), (34, 0), (35, 0), (36, 0), (33, 0)]) E E62 := Fr.put F58 P62 ta0 rfl
  refine lv_aload_n hx hb dX5_read_27 rfl (lv_at hl 0 rfl) ?_
  obtain ⟨v65, ev65, tv65⟩ : ∃ v : Int32, Int32.ofInt (-1) = v ∧ v.toInt = -1 := ⟨_, rfl, by decide +kernel⟩
  refine lv_iconst hx hb dX5_read_28 ev65 ?_
  refine tr_puti Z.1 Z.2.2.2.1 S62.1 S62.2 ha0 ta0 rfl rfl (fun _ h => List.mem_cons_of_mem _ (List.mem_append_left _ (List.mem_append_right _ h))) tyX5_ok nmX5 5 (by decide) rfl rfl rfl (hts _ (List.mem_of_getElem? (i := 9) rfl)) dX5_read_29 (by have := fb_rng v65; omega) (by have := fb_rng v65; omega) (fun E66 H67 k68 W66 I66 P66 => ?_)
  have S66 : Now D TB cy (va_A (va_pl L E) sz) s L τ E66 H67 k68 := ⟨W66, I66⟩
  have F66 : Fr L τ (inW [(7, 0), (34, 0), (35, 0), (36, 0), (33, 0)]) E E66 := Fr.put F62 P66 ta0 rfl
  refine lv_aload_n hx hb dX5_read_32 rfl (lv_at hl 0 rfl) ?_
  obtain ⟨v69, ev69, tv69⟩ : ∃ v : Int32, Int32.ofInt (0) = v ∧ v.toInt = 0 := ⟨_, rfl, by decide +kernel⟩
  refine lv_iconst hx hb dX5_read_33 ev69 ?_
  refine tr_putz Z.1 Z.2.2.2.1 S66.1 S66.2 ha0 ta0 rfl rfl (fun _ h => List.mem_cons_of_mem _ (List.mem_append_left _ (List.mem_append_right _ h))) tyX5_ok nmX5 7 (by decide) rfl rfl rfl (hts _ (List.mem_of_getElem? (i := 10) rfl)) dX5_read_34 (by omega) (by omega) (fun E70 H71 k72 W70 I70 P70 => ?_)
  have S70 : Now D TB cy (va_A (va_pl L E) sz) s L τ E70 H71 k72 := ⟨W70, I70⟩
  have F70 : Fr L τ (inW [(7, 0), (34, 0), (35, 0), (36, 0), (33, 0)]) E E70 := Fr.put F66 P70 ta0 rfl
  refine lv_aload_n hx hb dX5_read_37 rfl (lv_at hl 0 rfl) ?_
  obtain ⟨v73, ev73, tv73⟩ : ∃ v : Int32, Int32.ofInt (0) = v ∧ v.toInt = 0 := ⟨_, rfl, by decide +kernel⟩
  refine lv_iconst hx hb dX5_read_38 ev73 ?_
  refine tr_puti Z.1 Z.2.2.2.1 S70.1 S70.2 ha0 ta0 rfl rfl (fun _ h => List.mem_cons_of_mem _ (List.mem_append_left _ (List.mem_append_right _ h))) tyX5_ok nmX5 8 (by decide) rfl rfl rfl (hts _ (List.mem_of_getElem? (i := 11) rfl)) dX5_read_39 (by omega) (by omega) (fun E74 H75 k76 W74 I74 P74 => ?_)
  have S74 : Now D TB cy (va_A (va_pl L E) sz) s L τ E74 H75 k76 := ⟨W74, I74⟩
  have F74 : Fr L τ (inW [(7, 0), (34, 0), (35, 0), (36, 0), (33, 0)]) E E74 := Fr.put F70 P74 ta0 rfl
  refine lv_aload_n hx hb dX5_read_42 rfl (lv_at hl 0 rfl) ?_
  obtain ⟨v77, ev77, tv77⟩ : ∃ v : Int32, Int32.ofInt (0) = v ∧ v.toInt = 0 := ⟨_, rfl, by decide +kernel⟩
  refine lv_iconst hx hb dX5_read_43 ev77 ?_
  refine tr_puti Z.1 Z.2.2.2.1 S74.1 S74.2 ha0 ta0 rfl rfl (fun _ h => List.mem_cons_of_mem _ (List.mem_append_left _ (List.mem_append_right _ h))) tyX5_ok nmX5 9 (by decide) rfl rfl rfl (hts _ (List.mem_of_getElem? (i := 12) rfl)) dX5_read_44 (by omega) (by omega) (fun E78 H79 k80 W78 I78 P78 => ?_)
  have S78 : Now D TB cy (va_A (va_pl L E) sz) s L τ E78 H79 k80 := ⟨W78, I78⟩
  have F78 : Fr L τ (inW [(7, 0), (34, 0), (35, 0), (36, 0), (33, 0)]) E E78 := Fr.put F74 P78 ta0 rfl
  have k8_ : (fi E78 a0 8).toInt = 0 := (by rw [((fi_put (k := 8) P78 (Or.inr (by decide))).trans (fi_at P74))]; omega)
  have k9_ : (fi E78 a0 9).toInt = 0 := (by rw [(fi_at P78)]; omega)
  have hR47 : RdW E78 a0 qe qs := ⟨fun j hj => absurd hj (by omega), fun i hi => absurd hi (by omega)⟩
  have bf_ : (fi E78 a0 2).toInt.toNat = a1.toInt.toNat := by rw [((fi_put (k := 2) P78 (Or.inr (by decide))).trans ((fi_put (k := 2) P74 (Or.inr (by decide))).trans ((fi_put (k := 2) P70 (Or.inr (by decide))).trans ((fi_put (k := 2) P66 (Or.inr (by decide))).trans ((fi_put (k := 2) P62 (Or.inr (by decide))).trans ((fi_put (k := 2) P58 (Or.inr (by decide))).trans ((fi_put (k := 2) P54 (Or.inr (by decide))).trans (fi_at P50))))))))]; omega
  have bt_ : tx E78 qt a0 2 = (mkB (fun i => (ai E qt i).toInt) a1.toInt.toNat) := by unfold tx; rw [bf_]; exact mk_eq (fun i _ => by simp only [ai, ((P78.1 qt (ne_ro tqt ta0 (by decide))).trans ((P74.1 qt (ne_ro tqt ta0 (by decide))).trans ((P70.1 qt (ne_ro tqt ta0 (by decide))).trans ((P66.1 qt (ne_ro tqt ta0 (by decide))).trans ((P62.1 qt (ne_ro tqt ta0 (by decide))).trans ((P58.1 qt (ne_ro tqt ta0 (by decide))).trans ((P54.1 qt (ne_ro tqt ta0 (by decide))).trans (P50.1 qt (ne_ro tqt ta0 (by decide))))))))))])
  have b3_ : (fi E78 a0 3).toInt = ((0 : Nat) : Int) := by rw [((fi_put (k := 3) P78 (Or.inr (by decide))).trans ((fi_put (k := 3) P74 (Or.inr (by decide))).trans ((fi_put (k := 3) P70 (Or.inr (by decide))).trans ((fi_put (k := 3) P66 (Or.inr (by decide))).trans ((fi_put (k := 3) P62 (Or.inr (by decide))).trans (fi_at P58))))))]; omega
  have b4_ : (fi E78 a0 4).toInt = 0 := by rw [((fi_put (k := 4) P78 (Or.inr (by decide))).trans ((fi_put (k := 4) P74 (Or.inr (by decide))).trans ((fi_put (k := 4) P70 (Or.inr (by decide))).trans ((fi_put (k := 4) P66 (Or.inr (by decide))).trans (fi_at P62)))))]; omega
  refine lv_aload_n hx hb dX5_read_47 rfl (lv_at hl 0 rfl) ?_
  have fe_48a : (fi E78 a0 2).toInt.toNat = a1.toInt.toNat := bf_
  have tq_48a : tx E78 qt a0 2 = (mkB (fun i => (ai E qt i).toInt) a1.toInt.toNat) := bt_
  have po_48a : (fi E78 a0 3).toInt = ((0 : Nat) : Int) := b3_
  refine tc1_vv Z.1 Z.2.2.2.1 Z.2.2.2.2.1 Z.2.2.2.2.2 SZ S78.1 S78.2 ha0 ta0 rfl rfl (k_X5_readQuant_vr l D cy S78.2 ha0 ta0 hqt tqt b4_) (cwV 0 hts gX5_read_X5_readQuant rfl rfl rfl (by decide +kernel) ⟨Nat.le_of_ble_eq_true rfl, Nat.le_of_ble_eq_true rfl⟩) rfl hl.1 rfl (Nat.le_of_ble_eq_true rfl) dX5_read_48 ⟨Nat.zero_le _, Nat.zero_le _⟩ (fun E81 H82 k83 W81 I81 G81 p81 => ?_)
  obtain ⟨p81_0, p81_1⟩ := p81
  have S81 : Now D TB cy (va_A (va_pl L E) sz) s L τ E81 H82 k83 := ⟨W81, I81⟩
  have F81 : Fr L τ (inW [(7, 0), (34, 0), (35, 0), (36, 0), (33, 0)]) E E81 := F78.trans (G81.mono (inW_mono (by decide)))
  have dq_48 : Did (fi E81 a0 4).toInt (fi E81 a0 5).toInt (fi E81 a0 3).toInt (quantI (mkB (fun i => (ai E qt i).toInt) a1.toInt.toNat) a1.toInt.toNat 0) := by have q := p81_0; rw [tq_48a, fe_48a, show (fi E78 a0 3).toInt.toNat = 0 from by omega] at q; exact q
  have kp_48f := fi_rng (k := 4) S81.2 ha0 ta0 rfl rfl
  refine lv_aload_n hx hb dX5_read_51 rfl (lv_at hl 0 rfl) ?_
  refine tr_geti Z.1 Z.2.2.2.1 S81.1 S81.2 ha0 ta0 rfl rfl (fun _ h => List.mem_cons_of_mem _ (List.mem_append_left _ (List.mem_append_right _ h))) 4 (by decide) rfl (hts _ (List.mem_of_getElem? (i := 8) rfl)) dX5_read_52 (fun v85 ev85 lv85 uv85 => ?_)
  have wv85 : v85 = (fi E81 a0 4) := ev85.symm.trans rfl
  have xv85 : v85.toInt = (fi E81 a0 4).toInt := by rw [wv85]
  refine lv_if_ne (tgt := 62) hx hb dX5_read_55 (by decide) (fun c86 => ?_) (fun c86 => ?_)
  · skip
    have tc86 := nu_ne c86
    have uc86 : (0 : Int32).toInt = 0 := rfl
    obtain ⟨v87, ev87, tv87⟩ : ∃ v : Int32, Int32.ofInt (0) = v ∧ v.toInt = 0 := ⟨_, rfl, by decide +kernel⟩
    refine lv_iconst hx hb dX5_read_62 ev87 ?_
    refine lv_istore_n (lv' := [(2, .int v87), (0, .ref a0), (1, .int a1)]) hx hb dX5_read_63 rfl hl (by decide) rfl (fun l88 hl89 => ?_)
    obtain ⟨v90, ev90, tv90⟩ : ∃ v : Int32, Int32.ofInt (0) = v ∧ v.toInt = 0 := ⟨_, rfl, by decide +kernel⟩
    refine lv_iconst hx hb dX5_read_64 ev90 ?_
    refine lv_istore_n (lv' := [(3, .int v90), (2, .int v87), (0, .ref a0), (1, .int a1)]) hx hb dX5_read_65 rfl hl89 (by decide) rfl (fun l91 hl92 => ?_)
    exact J66 _ v87 v90 E81 H82 k83 l91 S81 F81 (by have := fb_rng a1; omega) (by have := fb_rng a1; omega) (by have := fb_rng a1; omega) (by have := fb_rng a1; omega) ((tx_same (G81 qt hqt (by rw [tqt]; rfl)) (p81_1 2 (by decide))).trans bt_) (by rw [(p81_1 2 (by decide))]; exact bf_) (Or.inr ⟨by omega, by rw [read_bad (fun z => absurd (dq_48.1.trans z) (by omega))]; exact dq_48.f⟩) (RdW.same hR47 (G81 qe hqe (by rw [tqe]; rfl)) (G81 qs hqs (by rw [tqs]; rfl)) (p81_1 7 (by decide)) (p81_1 8 (by decide)) (p81_1 9 (by decide))) (fun k hk => ((p81_1 k (fw_sub (by decide) hk)).trans ((fi_put P78 (Or.inr (fw_ne (by decide) hk))).trans ((fi_put P74 (Or.inr (fw_ne (by decide) hk))).trans ((fi_put P70 (Or.inr (fw_ne (by decide) hk))).trans ((fi_put P66 (Or.inr (fw_ne (by decide) hk))).trans ((fi_put P62 (Or.inr (fw_ne (by decide) hk))).trans ((fi_put P58 (Or.inr (fw_ne (by decide) hk))).trans ((fi_put P54 (Or.inr (fw_ne (by decide) hk))).trans ((fi_put P50 (Or.inr (fw_ne (by decide) hk))).trans ((fun k hk => rfl) k hk))))))))))) (by rw [((p81_1 1 (by decide)).trans ((fi_put (k := 1) P78 (Or.inr (by decide))).trans ((fi_put (k := 1) P74 (Or.inr (by decide))).trans ((fi_put (k := 1) P70 (Or.inr (by decide))).trans ((fi_put (k := 1) P66 (Or.inr (by decide))).trans ((fi_put (k := 1) P62 (Or.inr (by decide))).trans ((fi_put (k := 1) P58 (Or.inr (by decide))).trans (fi_at P54))))))))]; have := fb_rng a1; omega) (by rw [ev85]; have := fb_rng a1; omega) (Nat.lt_succ_self _) (lv_sub hl92 [2, 1, 0] rfl)
  · skip
    have tc86 := nu_eq c86
    have uc86 : (0 : Int32).toInt = 0 := rfl
    have r0_48 : (quantI (mkB (fun i => (ai E qt i).toInt) a1.toInt.toNat) a1.toInt.toNat 0).1 = 0 := dq_48.1.symm.trans (by omega)
    have pr_48 : (fi E81 a0 3).toInt = (((quantI (mkB (fun i => (ai E qt i).toInt) a1.toInt.toNat) a1.toInt.toNat 0).2.2 : Nat) : Int) := dq_48.2.2 r0_48
    obtain ⟨v93, ev93, tv93⟩ : ∃ v : Int32, Int32.ofInt (1) = v ∧ v.toInt = 1 := ⟨_, rfl, by decide +kernel⟩
    refine lv_iconst hx hb dX5_read_58 ev93 ?_
    refine lv_goto (tgt := 63) hx hb dX5_read_59 (by decide) ?_
    refine lv_istore_n (lv' := [(2, .int v93), (0, .ref a0), (1, .int a1)]) hx hb dX5_read_63 rfl hl (by decide) rfl (fun l94 hl95 => ?_)
    obtain ⟨v96, ev96, tv96⟩ : ∃ v : Int32, Int32.ofInt (0) = v ∧ v.toInt = 0 := ⟨_, rfl, by decide +kernel⟩
    refine lv_iconst hx hb dX5_read_64 ev96 ?_
    refine lv_istore_n (lv' := [(3, .int v96), (2, .int v93), (0, .ref a0), (1, .int a1)]) hx hb dX5_read_65 rfl hl95 (by decide) rfl (fun l97 hl98 => ?_)
    exact J66 _ v93 v96 E81 H82 k83 l97 S81 F81 (by have := fb_rng a1; omega) (by have := fb_rng a1; omega) (by have := fb_rng a1; omega) (by have := fb_rng a1; omega) ((tx_same (G81 qt hqt (by rw [tqt]; rfl)) (p81_1 2 (by decide))).trans bt_) (by rw [(p81_1 2 (by decide))]; exact bf_) (Or.inl ⟨by omega, by omega, by omega, by rw [(p81_1 8 (by decide))]; omega, by rw [(p81_1 9 (by decide))]; omega, by rw [show 4 - v96.toInt.toNat = 4 from by omega, show v96.toInt.toNat = 0 from by omega, read_go (fun z => z r0_48), show (fi E81 a0 3).toInt.toNat = (quantI (mkB (fun i => (ai E qt i).toInt) a1.toInt.toNat) a1.toInt.toNat 0).2.2 from by omega]⟩) (RdW.same hR47 (G81 qe hqe (by rw [tqe]; rfl)) (G81 qs hqs (by rw [tqs]; rfl)) (p81_1 7 (by decide)) (p81_1 8 (by decide)) (p81_1 9 (by decide))) (fun k hk => ((p81_1 k (fw_sub (by decide) hk)).trans ((fi_put P78 (Or.inr (fw_ne (by decide) hk))).trans ((fi_put P74 (Or.inr (fw_ne (by decide) hk))).trans ((fi_put P70 (Or.inr (fw_ne (by decide) hk))).trans ((fi_put P66 (Or.inr (fw_ne (by decide) hk))).trans ((fi_put P62 (Or.inr (fw_ne (by decide) hk))).trans ((fi_put P58 (Or.inr (fw_ne (by decide) hk))).trans ((fi_put P54 (Or.inr (fw_ne (by decide) hk))).trans ((fi_put P50 (Or.inr (fw_ne (by decide) hk))).trans ((fun k hk => rfl) k hk))))))))))) (by rw [((p81_1 1 (by decide)).trans ((fi_put (k := 1) P78 (Or.inr (by decide))).trans ((fi_put (k := 1) P74 (Or.inr (by decide))).trans ((fi_put (k := 1) P70 (Or.inr (by decide))).trans ((fi_put (k := 1) P66 (Or.inr (by decide))).trans ((fi_put (k := 1) P62 (Or.inr (by decide))).trans ((fi_put (k := 1) P58 (Or.inr (by decide))).trans (fi_at P54))))))))]; have := fb_rng a1; omega) (by rw [ev85]; have := fb_rng a1; omega) (Nat.lt_succ_self _) (lv_sub hl98 [2, 1, 0] rfl)

set_option maxHeartbeats 4000000 in
set_option maxRecDepth 100000 in
theorem k_X9_law_vr (l : Launch) (D : va_G) (cy : Nat → ClassId) {L : List Nat} {τ : Nat → Ro} {E : Ec} (hI : Inv TB cy L τ E) {G : Sg} {a0 : Nat} (ha0 : a0 ∈ L) (ta0 : τ a0 = (0, 0)) (a1 : Int32) {qr : Nat} (hqr : qr ∈ L) (tqr : τ qr = (7, 0)) {qt : Nat} (hqt : qt ∈ L) (tqt : τ qt = (32, 0)) (hraw : ∀ b ∈ L, τ b ≠ (210, 0)) : CtL1i G l yX9_law wsX9_law { frames := 11, cells := 5, slots := 262, locals := 248 } D cy L τ E [.ref a0, .int a1] a0 (inW [(1, 1), (20, 1), (21, 1), (22, 1), (23, 1), (24, 1), (25, 1), (26, 1), (27, 1), (4, 0), (0, 0), (1, 0), (20, 0), (21, 0), (22, 0), (23, 0), (24, 0), (25, 0), (26, 0), (27, 0), (7, 0), (34, 0), (35, 0), (36, 0), (33, 0)]) 5 262 (fun (v : Int32) (L' : List Nat) (τ' : Nat → Ro) (E' : Ec) => τ' a0 = (0, 0) ∧ (-1 ≤ v.toInt ∧ v.toInt ≤ 7) ∧ ((0 ≤ a1.toInt ∧ a1.toInt ≤ (fi E qr 1).toInt ∧ (fi E' qr 1).toInt = 0 ∧ DidF (fi E' qr 4).toInt (fi E' qr 5).toInt (readI (mkB (fun i => (ai E qt i).toInt) a1.toInt.toNat) a1.toInt.toNat)) ∨ (¬ (0 ≤ a1.toInt ∧ a1.toInt ≤ (fi E qr 1).toInt) ∧ (fi E' qr 1).toInt = (fi E qr 1).toInt ∧ fi E' qr 4 = fi E qr 4 ∧ ∀ i : Nat, ai E' qt i = ai E qt i))) := by
  generalize hP : (fun (v : Int32) (L' : List Nat) (τ' : Nat → Ro) (E' : Ec) => τ' a0 = (0, 0) ∧ (-1 ≤ v.toInt ∧ v.toInt ≤ 7) ∧ ((0 ≤ a1.toInt ∧ a1.toInt ≤ (fi E qr 1).toInt ∧ (fi E' qr 1).toInt = 0 ∧ DidF (fi E' qr 4).toInt (fi E' qr 5).toInt (readI (mkB (fun i => (ai E qt i).toInt) a1.toInt.toNat) a1.toInt.toNat)) ∨ (¬ (0 ≤ a1.toInt ∧ a1.toInt ≤ (fi E qr 1).toInt) ∧ (fi E' qr 1).toInt = (fi E qr 1).toInt ∧ fi E' qr 4 = fi E qr 4 ∧ ∀ i : Nat, ai E' qt i = ai E qt i))) = P
  intro sz
  refine staL (cc := cX9_law) (maxL := 3) hI (by decide) rfl (Nat.le_of_ble_eq_true rfl) (fun p e s m args below meth c ls hsz hnm Z SZ S0 hl => ?_)
  have hx := Z.1.1
  have hb := Z.1.2.1
  have hts := Z.1.2.2.2.2
  have F0_ : Fr L τ (inW [(1, 1), (20, 1), (21, 1), (22, 1), (23, 1), (24, 1), (25, 1), (26, 1), (27, 1), (4, 0), (0, 0), (1, 0), (20, 0), (21, 0), (22, 0), (23, 0), (24, 0), (25, 0), (26, 0), (27, 0), (7, 0), (34, 0), (35, 0), (36, 0), (33, 0)]) E E := Fr.refl
  have hl : lv_has ls 3 [(0, .ref a0), (1, .int a1)] := hl
  generalize hQ : MQ below _ args s 5 262 _ = QQ
  have kz_qr_1 := fi_rng (k := 1) hI hqr tqr rfl rfl
  refine lv_iload_n hx hb dX9_law_0 rfl (lv_at hl 1 rfl) ?_
  obtain ⟨v1, ev1, tv1⟩ : ∃ v : Int32, Int32.ofInt (0) = v ∧ v.toInt = 0 := ⟨_, rfl, by decide +kernel⟩
  refine lv_iconst hx hb dX9_law_1 ev1 ?_
  refine lv_aload_n hx hb dX9_law_2 rfl (lv_at hl 0 rfl) ?_
  refine tr_getr Z.1 Z.2.2.2.1 S0.1 S0.2 ha0 ta0 rfl rfl (fun _ h => List.mem_cons_of_mem _ (List.mem_append_left _ (List.mem_append_left _ (List.mem_append_left _ (List.mem_append_left _ (List.mem_append_right _ h)))))) 4 (by decide) rfl (hts _ (List.mem_of_getElem? (i := 1) rfl)) dX9_law_3 (fun q2 eq2 hq2 tq2 => ?_)
  have tq2 : τ q2 = (7, 0) := tq2
  have uq2 : qr = q2 := S0.2.2.2.2 _ hqr _ hq2 (tqr.trans tq2.symm) (by rw [tqr]; rfl)
  subst uq2
  refine tr_geti Z.1 Z.2.2.2.1 S0.1 S0.2 hqr tqr rfl rfl (fun _ h => List.mem_cons_of_mem _ (List.mem_append_left _ (List.mem_append_left _ (List.mem_append_left _ (List.mem_append_right _ h))))) 1 (by decide) rfl (hts _ (List.mem_of_getElem? (i := 2) rfl)) dX9_law_6 (fun v3 ev3 lv3 uv3 => ?_)
  have wv3 : v3 = (fi E qr 1) := ev3.symm.trans rfl
  have xv3 : v3.toInt = (fi E qr 1).toInt := by rw [wv3]
  refine tc_si Z.1 Z.2.2.2.1 Z.2.2.2.2.1 Z.2.2.2.2.2 S0.1 (k_X9_within l D cy S0.2 a1 v1 v3) (va_cwS 3 hts gX9_law_X9_within rfl rfl rfl (by decide +kernel) ⟨Nat.le_of_ble_eq_true rfl, Nat.le_of_ble_eq_true rfl⟩) rfl hl.1 rfl (Nat.le_of_ble_eq_true rfl) dX9_law_9 ⟨Nat.zero_le _, Nat.zero_le _⟩ (fun v7 E4 H5 k6 W4 I4 G4 p4 => ?_)
  obtain ⟨q4, p4_0, p4_1, p4_2⟩ := p4
  have q4 := q4.symm
  subst q4
  have S4 : Now D TB cy (va_A (va_pl L E) sz) s L τ E H5 k6 := ⟨W4, I4⟩
  refine lv_if_ne (tgt := 21) hx hb dX9_law_12 (by decide) (fun c8 => ?_) (fun c8 => ?_)
  · skip
    have tc8 := nu_ne c8
    have uc8 : (0 : Int32).toInt = 0 := rfl
    refine lv_aload_n hx hb dX9_law_21 rfl (lv_at hl 0 rfl) ?_
    refine tr_getr Z.1 Z.2.2.2.1 S4.1 S4.2 ha0 ta0 rfl rfl (fun _ h => List.mem_cons_of_mem _ (List.mem_append_left _ (List.mem_append_left _ (List.mem_append_left _ (List.mem_append_left _ (List.mem_append_right _ h)))))) 4 (by decide) rfl (hts _ (List.mem_of_getElem? (i := 1) rfl)) dX9_law_22 (fun q9 eq9 hq9 tq9 => ?_)
    have tq9 : τ q9 = (7, 0) := tq9
    have uq9 : qr = q9 := S4.2.2.2.2 _ hqr _ hq9 (tqr.trans tq9.symm) (by rw [tqr]; rfl)
    subst uq9
    refine lv_iload_n hx hb dX9_law_25 rfl (lv_at hl 1 rfl) ?_
    obtain ⟨qe, hqe, tqe⟩ := ref_of (k := 10) S4.2 hqr tqr rfl rfl
    have tqe : τ qe = (33, 0) := tqe
    obtain ⟨qs, hqs, tqs⟩ := ref_of (k := 13) S4.2 hqr tqr rfl rfl
    have tqs : τ qs = (36, 0) := tqs
    refine tc_Lq Z.1 Z.2.2.2.1 Z.2.2.2.2.1 Z.2.2.2.2.2 SZ S4 hqr tqr rfl rfl (k_X5_read_vr l D cy S4.2 hqr tqr a1 (by omega) hqe tqe hqs tqs hqt tqt hraw (by omega)) (cwV 1 hts gX9_law_X5_read rfl rfl rfl (by decide +kernel) ⟨Nat.le_of_ble_eq_true rfl, Nat.le_of_ble_eq_true rfl⟩) rfl hl.1 rfl (Nat.le_of_ble_eq_true rfl) dX9_law_26 ⟨Nat.le_of_ble_eq_true rfl, Nat.le_of_ble_eq_true rfl⟩ (fun v1 L τ E H1 k1 S1 G1 p1 => ?_)
    obtain ⟨p1a, p1b, p1c, p1d, p1e⟩ := p1
    have GG := fun (E9 : Ec) (h : Fr L τ (inW [(1, 1), (20, 1), (21, 1), (22, 1), (23, 1), (24, 1), (25, 1), (26, 1), (27, 1), (4, 0), (0, 0), (1, 0), (20, 0), (21, 0), (22, 0), (23, 0), (24, 0), (25, 0), (26, 0), (27, 0)]) E E9) => GL.cont (y := a0) F0_ G1 p1a tqr rfl (inW_mono (by decide)) (h.mono (inW_mono (by decide)))
    have ta0 : τ a0 = (0, 0) := (G1.2.1 a0 ha0 (ne_ro ta0 tqr (by decide))).trans ta0
    have ha0 : a0 ∈ L := G1.1 _ ha0
    have hqr : qr ∈ L := G1.1 _ hqr
    have F0_ : Fr L τ (inW [(1, 1), (20, 1), (21, 1), (22, 1), (23, 1), (24, 1), (25, 1), (26, 1), (27, 1), (4, 0), (0, 0), (1, 0), (20, 0), (21, 0), (22, 0), (23, 0), (24, 0), (25, 0), (26, 0), (27, 0)]) E E := Fr.refl
    cases v1 with
    | none =>
      refine W.eq (g2 := F0 m 29 ls [.null]) rfl ?_
      refine lv_astore_nN (lv' := [(2, .null), (0, .ref a0), (1, .int a1)]) hx hb dX9_law_29 rfl hl (by decide) rfl (fun l10 hl11 => ?_)
      refine lv_aload_nN hx hb dX9_law_30 rfl (lv_at hl11 0 rfl) ?_
      refine lv_ifnonnullN hx hb dX9_law_31 ?_
      refine lv_aload_n hx hb dX9_law_34 rfl (lv_at hl11 1 rfl) ?_
      obtain ⟨v12, ev12, tv12⟩ : ∃ v : Int32, Int32.ofInt (2) = v ∧ v.toInt = 2 := ⟨_, rfl, by decide +kernel⟩
      refine lv_iconst hx hb dX9_law_35 ev12 ?_
      refine tc_vi Z.1 Z.2.2.2.1 Z.2.2.2.2.1 Z.2.2.2.2.2 S1.1 S1.2 ha0 ta0 rfl rfl (k_X9_refuse l D cy S1.2 ha0 ta0 v12) (cwV 1 hts gX9_law_X9_refuse rfl rfl rfl (by decide +kernel) ⟨Nat.le_of_ble_eq_true rfl, Nat.le_of_ble_eq_true rfl⟩) rfl hl11.1 rfl (Nat.le_of_ble_eq_true rfl) dX9_law_36 ⟨Nat.le_of_ble_eq_true rfl, Nat.le_of_ble_eq_true rfl⟩ (fun v16 E13 H14 k15 W13 I13 G13 p13 => ?_)
      obtain ⟨p13_0, p13_1⟩ := p13
      have S13 : Now D TB cy _ s L τ E13 H14 k15 := ⟨W13, I13⟩
      have F13 : Fr L τ (inW [(1, 1), (20, 1), (21, 1), (22, 1), (23, 1), (24, 1), (25, 1), (26, 1), (27, 1), (4, 0), (0, 0), (1, 0), (20, 0), (21, 0), (22, 0), (23, 0), (24, 0), (25, 0), (26, 0), (27, 0)]) E E13 := F0_.trans (G13.mono (inW_mono (by decide)))
      rw [← hQ]
      exact en_iL (v := v16) (post := P) Z S13 (GG _ F13) (by rw [← hP]; exact ⟨ta0, ⟨by omega, by omega⟩, Or.inl ⟨by omega, by omega, by rw [fi_cell (k := 1) (F13 qr hqr (by rw [p1a]; rfl))]; exact p1b, by rw [fi_cell (k := 4) (F13 qr hqr (by rw [p1a]; rfl)), fi_cell (k := 5) (F13 qr hqr (by rw [p1a]; rfl))]; exact p1d⟩⟩) dX9_law_39
    | some q17 =>
      obtain ⟨hq17, gq17⟩ := p1c q17 rfl
      obtain ⟨nq17, tq17⟩ : ∃ n : Nat, τ q17 = (10, n) := ⟨(τ q17).2, by rw [← gq17]⟩
      refine W.eq (g2 := F0 m 29 ls [.ref q17]) rfl ?_
      refine lv_astore_n (lv' := [(2, .ref q17), (0, .ref a0), (1, .int a1)]) hx hb dX9_law_29 rfl hl (by decide) rfl (fun l18 hl19 => ?_)
      refine lv_aload_n hx hb dX9_law_30 rfl (lv_at hl19 0 rfl) ?_
      refine lv_ifnonnull (tgt := 40) hx hb dX9_law_31 (by decide) ?_
      refine lv_aload_n hx hb dX9_law_40 rfl (lv_at hl19 1 rfl) ?_
      refine tr_getr Z.1 Z.2.2.2.1 S1.1 S1.2 ha0 ta0 rfl rfl (fun _ h => List.mem_cons_of_mem _ (List.mem_append_left _ (List.mem_append_left _ (List.mem_append_left _ (List.mem_append_left _ (List.mem_append_right _ h)))))) 0 (by decide) rfl (hts _ (List.mem_of_getElem? (i := 3) rfl)) dX9_law_41 (fun q20 eq20 hq20 tq20 => ?_)
      have tq20 : τ q20 = (1, 0) := tq20
      refine tr_geti Z.1 Z.2.2.2.1 S1.1 S1.2 hq20 tq20 rfl rfl (fun _ h => List.mem_cons_of_mem _ (List.mem_append_left _ (List.mem_append_left _ (List.mem_append_right _ h)))) 7 (by decide) rfl (hts _ (List.mem_of_getElem? (i := 4) rfl)) dX9_law_44 (fun v21 ev21 lv21 uv21 => ?_)
      obtain ⟨v22, ev22, tv22⟩ : ∃ v : Int32, (Int8.ofInt (8)).toInt32 = v ∧ v.toInt = 8 := ⟨_, rfl, by decide +kernel⟩
      refine lv_bipush hx hb dX9_law_47 ev22 ?_
      refine lv_icmp_lt (tgt := 58) hx hb dX9_law_49 (by decide) (fun c23 => ?_) (fun c23 => ?_)
      · skip
        have tc23 := nu_lt c23
        refine lv_aload_n hx hb dX9_law_58 rfl (lv_at hl19 1 rfl) ?_
        refine tc_vv Z.1 Z.2.2.2.1 Z.2.2.2.2.1 Z.2.2.2.2.2 S1.1 S1.2 ha0 ta0 rfl rfl (k_X9_beginAct l D cy S1.2 ha0 ta0) (cwV 0 hts gX9_law_X9_beginAct rfl rfl rfl (by decide +kernel) ⟨Nat.le_of_ble_eq_true rfl, Nat.le_of_ble_eq_true rfl⟩) rfl hl19.1 rfl (Nat.le_of_ble_eq_true rfl) dX9_law_59 ⟨Nat.le_of_ble_eq_true rfl, Nat.le_of_ble_eq_true rfl⟩ (fun E24 H25 k26 W24 I24 G24 p24 => ?_)
        have S24 : Now D TB cy _ s L τ E24 H25 k26 := ⟨W24, I24⟩
        have F24 : Fr L τ (inW [(1, 1), (20, 1), (21, 1), (22, 1), (23, 1), (24, 1), (25, 1), (26, 1), (27, 1), (4, 0), (0, 0), (1, 0), (20, 0), (21, 0), (22, 0), (23, 0), (24, 0), (25, 0), (26, 0), (27, 0)]) E E24 := F0_.trans (G24.mono (inW_mono (by decide)))
        refine lv_aload_n hx hb dX9_law_62 rfl (lv_at hl19 1 rfl) ?_
        refine tr_getr Z.1 Z.2.2.2.1 S24.1 S24.2 ha0 ta0 rfl rfl (fun _ h => List.mem_cons_of_mem _ (List.mem_append_left _ (List.mem_append_left _ (List.mem_append_left _ (List.mem_append_left _ (List.mem_append_right _ h)))))) 0 (by decide) rfl (hts _ (List.mem_of_getElem? (i := 3) rfl)) dX9_law_63 (fun q28 eq28 hq28 tq28 => ?_)
        have tq28 : τ q28 = (1, 0) := tq28
        have uq28 : q20 = q28 := S24.2.2.2.2 _ hq20 _ hq28 (tq20.trans tq28.symm) (by rw [tq20]; rfl)
        subst uq28
        refine tr_getr Z.1 Z.2.2.2.1 S24.1 S24.2 hq20 tq20 rfl rfl (fun _ h => List.mem_cons_of_mem _ (List.mem_append_left _ (List.mem_append_left _ (List.mem_append_right _ h)))) 15 (by decide) rfl (hts _ (List.mem_of_getElem? (i := 5) rfl)) dX9_law_66 (fun q29 eq29 hq29 tq29 => ?_)
        have tq29 : τ q29 = (27, 0) := tq29
        refine lv_aload_n hx hb dX9_law_69 rfl (lv_at hl19 1 rfl) ?_
        refine tr_getr Z.1 Z.2.2.2.1 S24.1 S24.2 ha0 ta0 rfl rfl (fun _ h => List.mem_cons_of_mem _ (List.mem_append_left _ (List.mem_append_left _ (List.mem_append_left _ (List.mem_append_left _ (List.mem_append_right _ h)))))) 0 (by decide) rfl (hts _ (List.mem_of_getElem? (i := 3) rfl)) dX9_law_70 (fun q30 eq30 hq30 tq30 => ?_)
        have tq30 : τ q30 = (1, 0) := tq30
        have uq30 : q20 = q30 := S24.2.2.2.2 _ hq20 _ hq30 (tq20.trans tq30.symm) (by rw [tq20]; rfl)
        subst uq30
        refine tr_geti Z.1 Z.2.2.2.1 S24.1 S24.2 hq20 tq20 rfl rfl (fun _ h => List.mem_cons_of_mem _ (List.mem_append_left _ (List.mem_append_left _ (List.mem_append_right _ h)))) 7 (by decide) rfl (hts _ (List.mem_of_getElem? (i := 4) rfl)) dX9_law_73 (fun v31 ev31 lv31 uv31 => ?_)
        have wv31 : v31 = v21 := ev31.symm.trans ((fi_fr (k := 7) G24 hq20 (by rw [tq20]; rfl)).trans ev21)
        have xv31 : v31.toInt = v21.toInt := by rw [wv31]
        refine lv_aload_n hx hb dX9_law_76 rfl (lv_at hl19 0 rfl) ?_
        have hv32 : ∀ y : Nat, (some q17) = some y → y ∈ L ∧ (τ y).1 = 10 := (fun y h => by cases h; exact ⟨hq17, by rw [tq17]⟩)
        refine tr_aast (v := (some q17)) (ci := 1) Z.1 Z.2.2.2.1 S24.1 S24.2 hq29 tq29 rfl rfl rfl (law_ob hv32) (law_ok hv32) (by omega) (by omega) dX9_law_77 (fun E32 H33 k34 W32 I32 P32 => ?_)
        have S32 : Now D TB cy _ s L τ E32 H33 k34 := ⟨W32, I32⟩
        have F32 : Fr L τ (inW [(1, 1), (20, 1), (21, 1), (22, 1), (23, 1), (24, 1), (25, 1), (26, 1), (27, 1), (4, 0), (0, 0), (1, 0), (20, 0), (21, 0), (22, 0), (23, 0), (24, 0), (25, 0), (26, 0), (27, 0)]) E E32 := Fr.seq F24 P32 tq29 rfl
        refine lv_aload_n hx hb dX9_law_78 rfl (lv_at hl19 1 rfl) ?_
        refine tr_getr Z.1 Z.2.2.2.1 S32.1 S32.2 ha0 ta0 rfl rfl (fun _ h => List.mem_cons_of_mem _ (List.mem_append_left _ (List.mem_append_left _ (List.mem_append_left _ (List.mem_append_left _ (List.mem_append_right _ h)))))) 0 (by decide) rfl (hts _ (List.mem_of_getElem? (i := 3) rfl)) dX9_law_79 (fun q35 eq35 hq35 tq35 => ?_)
        have tq35 : τ q35 = (1, 0) := tq35
        have uq35 : q20 = q35 := S32.2.2.2.2 _ hq20 _ hq35 (tq20.trans tq35.symm) (by rw [tq20]; rfl)
        subst uq35
        refine lv_dup hx hb dX9_law_82 rfl ?_
        refine tr_geti Z.1 Z.2.2.2.1 S32.1 S32.2 hq20 tq20 rfl rfl (fun _ h => List.mem_cons_of_mem _ (List.mem_append_left _ (List.mem_append_left _ (List.mem_append_right _ h)))) 7 (by decide) rfl (hts _ (List.mem_of_getElem? (i := 4) rfl)) dX9_law_83 (fun v36 ev36 lv36 uv36 => ?_)
        have wv36 : v36 = v31 := ev36.symm.trans ((fi_seq (k := 7) P32 (ne_ro tq20 tq29 (by decide))).trans ev31)
        have xv36 : v36.toInt = v31.toInt := by rw [wv36]
        obtain ⟨v37, ev37, tv37⟩ : ∃ v : Int32, Int32.ofInt (1) = v ∧ v.toInt = 1 := ⟨_, rfl, by decide +kernel⟩
        refine lv_iconst hx hb dX9_law_86 ev37 ?_
        refine lv_iadd hx hb dX9_law_87 ?_
        refine lv_topi (fun v38 ev38 => ?_)
        have tv38 := nu_add ev38 (by omega) (by omega)
        refine tr_puti Z.1 Z.2.2.2.1 S32.1 S32.2 hq20 tq20 rfl rfl (fun _ h => List.mem_cons_of_mem _ (List.mem_append_left _ (List.mem_append_left _ (List.mem_append_right _ h)))) tyX4_ok nmX4 7 (by decide) rfl rfl rfl (hts _ (List.mem_of_getElem? (i := 4) rfl)) dX9_law_88 (by omega) (by omega) (fun E39 H40 k41 W39 I39 P39 => ?_)
        have S39 : Now D TB cy _ s L τ E39 H40 k41 := ⟨W39, I39⟩
        have F39 : Fr L τ (inW [(1, 1), (20, 1), (21, 1), (22, 1), (23, 1), (24, 1), (25, 1), (26, 1), (27, 1), (4, 0), (0, 0), (1, 0), (20, 0), (21, 0), (22, 0), (23, 0), (24, 0), (25, 0), (26, 0), (27, 0)]) E E39 := Fr.put F32 P39 tq20 rfl
        refine lv_aload_n hx hb dX9_law_91 rfl (lv_at hl19 1 rfl) ?_
        refine tr_getr Z.1 Z.2.2.2.1 S39.1 S39.2 ha0 ta0 rfl rfl (fun _ h => List.mem_cons_of_mem _ (List.mem_append_left _ (List.mem_append_left _ (List.mem_append_left _ (List.mem_append_left _ (List.mem_append_right _ h)))))) 0 (by decide) rfl (hts _ (List.mem_of_getElem? (i := 3) rfl)) dX9_law_92 (fun q42 eq42 hq42 tq42 => ?_)
        have tq42 : τ q42 = (1, 0) := tq42
        have uq42 : q20 = q42 := S39.2.2.2.2 _ hq20 _ hq42 (tq20.trans tq42.symm) (by rw [tq20]; rfl)
        subst uq42
        refine tr_geti Z.1 Z.2.2.2.1 S39.1 S39.2 hq20 tq20 rfl rfl (fun _ h => List.mem_cons_of_mem _ (List.mem_append_left _ (List.mem_append_left _ (List.mem_append_right _ h)))) 7 (by decide) rfl (hts _ (List.mem_of_getElem? (i := 4) rfl)) dX9_law_95 (fun v43 ev43 lv43 uv43 => ?_)
        have wv43 : v43 = v38 := ev43.symm.trans (fi_at P39)
        have xv43 : v43.toInt = v38.toInt := by rw [wv43]
        obtain ⟨v44, ev44, tv44⟩ : ∃ v : Int32, Int32.ofInt (1) = v ∧ v.toInt = 1 := ⟨_, rfl, by decide +kernel⟩
        refine lv_iconst hx hb dX9_law_98 ev44 ?_
        refine lv_isub hx hb dX9_law_99 ?_
        refine lv_topi (fun v45 ev45 => ?_)
        have tv45 := nu_sub ev45 (by omega) (by omega)
        rw [← hQ]
        exact en_iL (v := v45) (post := P) Z S39 (GG _ F39) (by rw [← hP]; exact ⟨ta0, ⟨by omega, by omega⟩, Or.inl ⟨by omega, by omega, by rw [fi_cell (k := 1) (F39 qr hqr (by rw [p1a]; rfl))]; exact p1b, by rw [fi_cell (k := 4) (F39 qr hqr (by rw [p1a]; rfl)), fi_cell (k := 5) (F39 qr hqr (by rw [p1a]; rfl))]; exact p1d⟩⟩) dX9_law_100
      · skip
        have tc23 := nu_nlt c23
        refine lv_aload_n hx hb dX9_law_52 rfl (lv_at hl19 1 rfl) ?_
        obtain ⟨v46, ev46, tv46⟩ : ∃ v : Int32, Int32.ofInt (3) = v ∧ v.toInt = 3 := ⟨_, rfl, by decide +kernel⟩
        refine lv_iconst hx hb dX9_law_53 ev46 ?_
        refine tc_vi Z.1 Z.2.2.2.1 Z.2.2.2.2.1 Z.2.2.2.2.2 S1.1 S1.2 ha0 ta0 rfl rfl (k_X9_refuse l D cy S1.2 ha0 ta0 v46) (cwV 1 hts gX9_law_X9_refuse rfl rfl rfl (by decide +kernel) ⟨Nat.le_of_ble_eq_true rfl, Nat.le_of_ble_eq_true rfl⟩) rfl hl19.1 rfl (Nat.le_of_ble_eq_true rfl) dX9_law_54 ⟨Nat.le_of_ble_eq_true rfl, Nat.le_of_ble_eq_true rfl⟩ (fun v50 E47 H48 k49 W47 I47 G47 p47 => ?_)
        obtain ⟨p47_0, p47_1⟩ := p47
        have S47 : Now D TB cy _ s L τ E47 H48 k49 := ⟨W47, I47⟩
        have F47 : Fr L τ (inW [(1, 1), (20, 1), (21, 1), (22, 1), (23, 1), (24, 1), (25, 1), (26, 1), (27, 1), (4, 0), (0, 0), (1, 0), (20, 0), (21, 0), (22, 0), (23, 0), (24, 0), (25, 0), (26, 0), (27, 0)]) E E47 := F0_.trans (G47.mono (inW_mono (by decide)))
        rw [← hQ]
        exact en_iL (v := v50) (post := P) Z S47 (GG _ F47) (by rw [← hP]; exact ⟨ta0, ⟨by omega, by omega⟩, Or.inl ⟨by omega, by omega, by rw [fi_cell (k := 1) (F47 qr hqr (by rw [p1a]; rfl))]; exact p1b, by rw [fi_cell (k := 4) (F47 qr hqr (by rw [p1a]; rfl)), fi_cell (k := 5) (F47 qr hqr (by rw [p1a]; rfl))]; exact p1d⟩⟩) dX9_law_57
  · skip
    have tc8 := nu_eq c8
    have uc8 : (0 : Int32).toInt = 0 := rfl
    refine lv_aload_n hx hb dX9_law_15 rfl (lv_at hl 0 rfl) ?_
    obtain ⟨v51, ev51, tv51⟩ : ∃ v : Int32, Int32.ofInt (1) = v ∧ v.toInt = 1 := ⟨_, rfl, by decide +kernel⟩
    refine lv_iconst hx hb dX9_law_16 ev51 ?_
    refine tc_vi Z.1 Z.2.2.2.1 Z.2.2.2.2.1 Z.2.2.2.2.2 S4.1 S4.2 ha0 ta0 rfl rfl (k_X9_refuse l D cy S4.2 ha0 ta0 v51) (cwV 1 hts gX9_law_X9_refuse rfl rfl rfl (by decide +kernel) ⟨Nat.le_of_ble_eq_true rfl, Nat.le_of_ble_eq_true rfl⟩) rfl hl.1 rfl (Nat.le_of_ble_eq_true rfl) dX9_law_17 ⟨Nat.zero_le _, Nat.zero_le _⟩ (fun v55 E52 H53 k54 W52 I52 G52 p52 => ?_)
    obtain ⟨p52_0, p52_1⟩ := p52
    have S52 : Now D TB cy _ s L τ E52 H53 k54 := ⟨W52, I52⟩
    have F52 : Fr L τ (inW [(1, 1), (20, 1), (21, 1), (22, 1), (23, 1), (24, 1), (25, 1), (26, 1), (27, 1), (4, 0), (0, 0), (1, 0), (20, 0), (21, 0), (22, 0), (23, 0), (24, 0), (25, 0), (26, 0), (27, 0), (7, 0), (34, 0), (35, 0), (36, 0), (33, 0)]) E E52 := F0_.trans (G52.mono (inW_mono (by decide)))
    rw [← hQ]
    refine W.widen (k := 5) (n := 262) (Nat.le_of_ble_eq_true rfl) (Nat.le_of_ble_eq_true rfl) ?_
    exact en_iL (v := v55) (post := P) Z S52 (GL.fr F52) (by rw [← hP]; exact ⟨ta0, ⟨by omega, by omega⟩, Or.inr ⟨by omega, by have hh := congrArg Int32.toInt (((fi_fr (k := 1) G52 hqr (by rw [tqr]; rfl)).trans ev3)); omega, (fi_fr (k := 4) G52 hqr (by rw [tqr]; rfl)), fun i => (ai_fr G52 hqt (by rw [tqt]; rfl))⟩⟩) dX9_law_20

