set_option maxHeartbeats 4000000 in
set_option maxRecDepth 100000 in
theorem k_X10_read_vr (l : Launch) (D : va_G) (cy : Nat → ClassId) {L : List Nat} {τ : Nat → Ro} {E : Ec} (hI : Inv TB cy L τ E) {a0 : Nat} (ha0 : a0 ∈ L) (ta0 : τ a0 = (11, 0)) (a1 : Int32) (la1 : 0 ≤ a1.toInt) (ua1 : a1.toInt ≤ 49) {qx : Nat} (hqx : qx ∈ L) (tqx : τ qx = (73, 0)) (h4 : (fi E a0 5).toInt = 0) (hS : SlotOK L τ E) : CtV l yX10_read wsX10_read { frames := 4, cells := 0, slots := 0, locals := 101 } D TB cy L τ E [.ref a0, .int a1] (inW [(11, 0), (74, 0), (75, 0), (76, 0), (77, 0), (78, 0), (79, 0), (80, 0)]) (fun E' => (DidF (fi E' a0 5).toInt (fi E' a0 6).toInt (readI (tx E qx a0 21) (fi E a0 21).toInt.toNat)) ∧ (∀ k : Nat, k ∉ ([5, 6, 22] : List Nat) → fi E' a0 k = fi E a0 k) ∧ SlotOK L τ E') := by
  intro sz
  refine sta (cc := cX10_read) (maxL := 7) hI (by decide) rfl (Nat.le_of_ble_eq_true rfl) (fun p e s m args below meth c ls hsz Z S0 hl => ?_)
  have hx := Z.1.1
  have hb := Z.1.2.1
  have hts := Z.1.2.2.2.2
  have F0_ : Fr L τ (inW [(11, 0), (74, 0), (75, 0), (76, 0), (77, 0), (78, 0), (79, 0), (80, 0)]) E E := Fr.refl
  have hl : lv_has ls 7 [(0, .ref a0), (1, .int a1)] := hl
  generalize hQ : MQ below _ args s 0 0 _ = QQ
  obtain ⟨ql, hql, tql⟩ := ref_of (k := 24) hI ha0 ta0 rfl rfl
  have tql : τ ql = (75, 0) := tql
  obtain ⟨qr, hqr, tqr⟩ := ref_of (k := 25) hI ha0 ta0 rfl rfl
  have tqr : τ qr = (76, 0) := tqr
  obtain ⟨qm, hqm, tqm⟩ := ref_of (k := 26) hI ha0 ta0 rfl rfl
  have tqm : τ qm = (77, 0) := tqm
  obtain ⟨qd, hqd, tqd⟩ := ref_of (k := 28) hI ha0 ta0 rfl rfl
  have tqd : τ qd = (79, 0) := tqd
  have kz_a0_5 := fi_rng (k := 5) hI ha0 ta0 rfl rfl
  have kz_a0_6 := fi_rng (k := 6) hI ha0 ta0 rfl rfl
  have kz_a0_22 := fi_rng (k := 22) hI ha0 ta0 rfl rfl
  have kz_a0_21 := fi_rng (k := 21) hI ha0 ta0 rfl rfl
  have hTr : ∀ p : Nat, -128 ≤ (tx E qx a0 21) p ∧ (tx E qx a0 21) p ≤ 127 := tx_rng hI hqx tqx rfl (by omega)
  have J112 : ∀ (n : Nat) (x4_112 : Int32) (E_112 : Ec) (H_112 : Heap) (k_112 : List Loc) (l_112 : Array Slot), Now D TB cy (va_A (va_pl L E) sz) s L τ E_112 H_112 k_112 → Fr L τ (inW [(11, 0), (74, 0), (75, 0), (76, 0), (77, 0), (78, 0), (79, 0), (80, 0)]) E E_112 → (0 ≤ a1.toInt) → (a1.toInt ≤ 49) → (0 ≤ x4_112.toInt) → (x4_112.toInt ≤ 1) → (SlotW E_112 ql qr qm qd) → (((fi E_112 a0 5).toInt ≤ 0 ∧ x4_112.toInt = 1) → (ai E_112 qr a1.toInt.toNat).toInt ≤ 3) → ((x4_112.toInt = 1 ∧ (fi E_112 a0 5).toInt = 0 ∧ (ai E_112 qr a1.toInt.toNat).toInt ≤ 3 ∧ relsF (tx E qx a0 21) (fi E a0 21).toInt.toNat (4 - (ai E_112 qr a1.toInt.toNat).toInt.toNat) (ai E_112 qr a1.toInt.toNat).toInt.toNat (fi E_112 a0 22).toInt.toNat = (readI (tx E qx a0 21) (fi E a0 21).toInt.toNat)) ∨ ((x4_112.toInt = 0 ∨ 0 < (fi E_112 a0 5).toInt) ∧ DidF (fi E_112 a0 5).toInt (fi E_112 a0 6).toInt (readI (tx E qx a0 21) (fi E a0 21).toInt.toNat))) → (∀ k : Nat, k ∉ ([5, 6, 22] : List Nat) → fi E_112 a0 k = fi E a0 k) → (-2147483648 ≤ (fi E_112 a0 5).toInt ∧ (fi E_112 a0 5).toInt ≤ 2147483647) → (0 ≤ (fi E_112 a0 22).toInt ∧ (fi E_112 a0 22).toInt ≤ 120) → (5 - (ai E_112 qr a1.toInt.toNat).toInt).toNat < n → lv_has l_112 7 [(0, .ref a0), (1, .int a1), (4, .int x4_112)] → W p l e { frames := 4, cells := 0, slots := 0, locals := 101 } s m args below meth c H_112 k_112 0 0 QQ (F0 m 112 l_112 []) := by
    intro n
    induction n with
    | zero => intro x4_112 E_112 H_112 k_112 l_112 S_112 F_112 z1 z2 z3 z4 z5 z6 z7 z8 z9 z10 hm hl_112; exact absurd hm (Nat.not_lt_zero _)
    | succ n ih =>
      intro x4_112 E_112 H_112 k_112 l_112 S_112 F_112 z1 z2 z3 z4 z5 z6 z7 z8 z9 z10 hm hl_112
      have ih_112 := ih
      have J336 : ∀ (x4_336 : Int32) (E_336 : Ec) (H_336 : Heap) (k_336 : List Loc) (l_336 : Array Slot), Now D TB cy (va_A (va_pl L E) sz) s L τ E_336 H_336 k_336 → Fr L τ (inW [(11, 0), (74, 0), (75, 0), (76, 0), (77, 0), (78, 0), (79, 0), (80, 0)]) E E_336 → (0 ≤ a1.toInt) → (a1.toInt ≤ 49) → (1 ≤ x4_336.toInt) → (x4_336.toInt ≤ 1) → (SlotW E_336 ql qr qm qd) → ((fi E_336 a0 5).toInt ≤ 0 → (ai E_336 qr a1.toInt.toNat).toInt ≤ 3) → ((ai E_336 qr a1.toInt.toNat).toInt = (ai E_112 qr a1.toInt.toNat).toInt + 1 ∧ (ai E_336 qr a1.toInt.toNat).toInt ≤ 4) → ((compI (tx E qx a0 21) (fi E a0 21).toInt.toNat (fi E_112 a0 22).toInt.toNat).1 = 0 ∧ (fi E_336 a0 22).toInt = (((compI (tx E qx a0 21) (fi E a0 21).toInt.toNat (fi E_112 a0 22).toInt.toNat).2.2 : Nat) : Int) ∧ pkI (tx E qx a0 21) (fi E a0 21).toInt.toNat (compI (tx E qx a0 21) (fi E a0 21).toInt.toNat (fi E_112 a0 22).toInt.toNat).2.2 ≠ -1 ∧ DidF (fi E_336 a0 5).toInt (fi E_336 a0 6).toInt (andI (tx E qx a0 21) (fi E a0 21).toInt.toNat ((ai E_112 qr a1.toInt.toNat).toInt.toNat + 1) (compI (tx E qx a0 21) (fi E a0 21).toInt.toNat (fi E_112 a0 22).toInt.toNat).2.2) ∧ ((andI (tx E qx a0 21) (fi E a0 21).toInt.toNat ((ai E_112 qr a1.toInt.toNat).toInt.toNat + 1) (compI (tx E qx a0 21) (fi E a0 21).toInt.toNat (fi E_112 a0 22).toInt.toNat).2.2).1 = 0 → (andI (tx E qx a0 21) (fi E a0 21).toInt.toNat ((ai E_112 qr a1.toInt.toNat).toInt.toNat + 1) (compI (tx E qx a0 21) (fi E a0 21).toInt.toNat (fi E_112 a0 22).toInt.toNat).2.2).2.2 = ltI (tx E qx a0 21) (fi E a0 21).toInt.toNat (compI (tx E qx a0 21) (fi E a0 21).toInt.toNat (fi E_112 a0 22).toInt.toNat).2.2)) → (0 ≤ (ai E_112 qr a1.toInt.toNat).toInt ∧ (ai E_112 qr a1.toInt.toNat).toInt ≤ 3 ∧ relsF (tx E qx a0 21) (fi E a0 21).toInt.toNat ((3 - (ai E_112 qr a1.toInt.toNat).toInt.toNat) + 1) (ai E_112 qr a1.toInt.toNat).toInt.toNat (fi E_112 a0 22).toInt.toNat = (readI (tx E qx a0 21) (fi E a0 21).toInt.toNat)) → (∀ k : Nat, k ∉ ([5, 6, 22] : List Nat) → fi E_336 a0 k = fi E a0 k) → (-2147483648 ≤ (fi E_336 a0 5).toInt ∧ (fi E_336 a0 5).toInt ≤ 2147483647) → (0 ≤ (fi E_336 a0 22).toInt ∧ (fi E_336 a0 22).toInt ≤ 120) → lv_has l_336 7 [(0, .ref a0), (1, .int a1), (4, .int x4_336)] → W p l e { frames := 4, cells := 0, slots := 0, locals := 101 } s m args below meth c H_336 k_336 0 0 QQ (F0 m 336 l_336 []) := by
        intro x4_336 E_336 H_336 k_336 l_336 S_336 F_336 z11 z12 z13 z14 z15 z16 z17 z18 z19 z20 z21 z22 hl_336
        have a112s := z19.2.2
        have a112b : 0 ≤ (ai E_112 qr a1.toInt.toNat).toInt ∧ (ai E_112 qr a1.toInt.toNat).toInt ≤ 3 := ⟨z19.1, z19.2.1⟩
        refine lv_aload_n hx hb dX10_read_336 rfl (lv_at hl_336 0 rfl) ?_
        have fe_337a : fi E_336 a0 21 = fi E a0 21 := (z20 21 (by decide))
        have tq_337a : tx E_336 qx a0 21 = (tx E qx a0 21) := tx_same (F_336 qx hqx (by rw [tqx]; rfl)) fe_337a
        have po_337a : (fi E_336 a0 22).toInt = (((compI (tx E qx a0 21) (fi E a0 21).toInt.toNat (fi E_112 a0 22).toInt.toNat).2.2 : Nat) : Int) := z18.2.1
        refine tc_vv Z.1 Z.2.2.2.1 Z.2.2.2.2.1 Z.2.2.2.2.2 S_336.1 S_336.2 ha0 ta0 rfl rfl (k_X10_passWord_vr l D cy S_336.2 ha0 ta0 hqx tqx) (cwV 0 hts gX10_read_X10_passWord rfl rfl rfl (by decide +kernel) ⟨Nat.le_of_ble_eq_true rfl, Nat.le_of_ble_eq_true rfl⟩) rfl hl_336.1 rfl (Nat.le_of_ble_eq_true rfl) dX10_read_337 ⟨Nat.zero_le _, Nat.zero_le _⟩ (fun E23 H24 k25 W23 I23 G23 p23 => ?_)
        obtain ⟨p23_0, p23_1⟩ := p23
        have S23 : Now D TB cy (va_A (va_pl L E) sz) s L τ E23 H24 k25 := ⟨W23, I23⟩
        have F23 : Fr L τ (inW [(11, 0), (74, 0), (75, 0), (76, 0), (77, 0), (78, 0), (79, 0), (80, 0)]) E E23 := F_336.trans (G23.mono (inW_mono (by decide)))
        have po_337 : (fi E23 a0 22).toInt = (((ltI (tx E qx a0 21) (fi E a0 21).toInt.toNat (compI (tx E qx a0 21) (fi E a0 21).toInt.toNat (fi E_112 a0 22).toInt.toNat).2.2) : Nat) : Int) := by have q := p23_0; rw [tq_337a, fe_337a, show (fi E_336 a0 22).toInt.toNat = (compI (tx E qx a0 21) (fi E a0 21).toInt.toNat (fi E_112 a0 22).toInt.toNat).2.2 from by omega] at q; exact q
        have kp_337 := fi_rng (k := 22) S23.2 ha0 ta0 rfl rfl
        refine lv_goto (tgt := 112) hx hb dX10_read_340 (by decide) ?_
        exact ih_112 x4_336 E23 H24 k25 l_336 S23 F23 (by omega) (by omega) (by omega) (by omega) (SlotW.same z15 (G23 ql hql (by rw [tql]; rfl)) (G23 qr hqr (by rw [tqr]; rfl)) (G23 qm hqm (by rw [tqm]; rfl)) (G23 qd hqd (by rw [tqd]; rfl))) (fun h => (by rw [show ai E23 qr a1.toInt.toNat = ai E_336 qr a1.toInt.toNat from (ai_fr G23 hqr (by rw [tqr]; rfl))]; exact z16 (by have h1 := h.1; rw [(p23_1 5 (by decide))] at h1; exact h1))) (by have ge_ := and_ge (B := (tx E qx a0 21)) (n := (fi E a0 21).toInt.toNat) (r := (ai E_112 qr a1.toInt.toNat).toInt.toNat + 1) (q := (compI (tx E qx a0 21) (fi E a0 21).toInt.toNat (fi E_112 a0 22).toInt.toNat).2.2); have d1_ := z18.2.2.2.1.1; rcases Int.lt_or_le 0 (fi E_336 a0 5).toInt with g_ | g_; exact Or.inr ⟨Or.inr (by rw [(p23_1 5 (by decide))]; exact g_), by rw [← a112s, rels_and (fun w => w z18.1) z18.2.2.1 (fun w => absurd (z18.2.2.2.1.1.trans w) (by omega)), (p23_1 5 (by decide)), (p23_1 6 (by decide))]; exact z18.2.2.2.1⟩; have e5_ : (fi E_336 a0 5).toInt = 0 := (by omega); exact Or.inl ⟨by omega, by rw [(p23_1 5 (by decide))]; exact e5_, by rw [(show ai E23 qr a1.toInt.toNat = ai E_336 qr a1.toInt.toNat from (ai_fr G23 hqr (by rw [tqr]; rfl)))]; exact z16 (by omega), by rw [(show ai E23 qr a1.toInt.toNat = ai E_336 qr a1.toInt.toNat from (ai_fr G23 hqr (by rw [tqr]; rfl))), show (fi E23 a0 22).toInt.toNat = (andI (tx E qx a0 21) (fi E a0 21).toInt.toNat ((ai E_112 qr a1.toInt.toNat).toInt.toNat + 1) (compI (tx E qx a0 21) (fi E a0 21).toInt.toNat (fi E_112 a0 22).toInt.toNat).2.2).2.2 from by rw [z18.2.2.2.2 (z18.2.2.2.1.1.symm.trans e5_)]; have q := po_337; omega, show 4 - (ai E_336 qr a1.toInt.toNat).toInt.toNat = 3 - (ai E_112 qr a1.toInt.toNat).toInt.toNat from by omega, show (ai E_336 qr a1.toInt.toNat).toInt.toNat = (ai E_112 qr a1.toInt.toNat).toInt.toNat + 1 from by omega, ← a112s, rels_go (fun w => w z18.1) z18.2.2.1 (fun w => w (z18.2.2.2.1.1.symm.trans e5_))]⟩) (fun k hk => ((p23_1 k (fw_sub (by decide) hk)).trans (z20 k hk))) (by rw [((p23_1 5 (by decide)).trans rfl)]; omega) (by omega) (by rw [show ai E23 qr a1.toInt.toNat = ai E_336 qr a1.toInt.toNat from (ai_fr G23 hqr (by rw [tqr]; rfl))]; omega) (lv_sub hl_336 [0, 1, 2] rfl)
      have J240 : ∀ (x5_240 : Int32) (y0_240 : Nat) (y1_240 : Int32) (y2_240 : Int32) (E_240 : Ec) (H_240 : Heap) (k_240 : List Loc) (l_240 : Array Slot), Now D TB cy (va_A (va_pl L E) sz) s L τ E_240 H_240 k_240 → Fr L τ (inW [(11, 0), (74, 0), (75, 0), (76, 0), (77, 0), (78, 0), (79, 0), (80, 0)]) E E_240 → (0 ≤ a1.toInt) → (a1.toInt ≤ 49) → (1 ≤ x4_112.toInt) → (x4_112.toInt ≤ 1) → (0 ≤ x5_240.toInt) → (x5_240.toInt ≤ 3) → (y0_240 ∈ L) → (τ y0_240 = (80, 0)) → (0 ≤ y1_240.toInt) → (y1_240.toInt ≤ 199) → (-1 ≤ y2_240.toInt) → (y2_240.toInt ≤ 1) → (SlotW E_240 ql qr qm qd) → ((ai E_240 qr a1.toInt.toNat).toInt = x5_240.toInt ∧ x5_240.toInt ≤ 3 ∧ x5_240.toInt = (ai E_112 qr a1.toInt.toNat).toInt) → (PartOK E_240 ql qm qd a1.toInt.toNat (2 * x5_240.toInt.toNat)) → ((fi E_240 a0 5).toInt = 0 ∧ (sumI (tx E qx a0 21) (fi E a0 21).toInt.toNat (fi E_112 a0 22).toInt.toNat).1 = 0 ∧ (relI (tx E qx a0 21) (fi E a0 21).toInt.toNat (sumI (tx E qx a0 21) (fi E a0 21).toInt.toNat (fi E_112 a0 22).toInt.toNat).2.2).1 = 0 ∧ (fi E_240 a0 22).toInt = (((relI (tx E qx a0 21) (fi E a0 21).toInt.toNat (sumI (tx E qx a0 21) (fi E a0 21).toInt.toNat (fi E_112 a0 22).toInt.toNat).2.2).2.2 : Nat) : Int)) → (0 ≤ (ai E_112 qr a1.toInt.toNat).toInt ∧ (ai E_112 qr a1.toInt.toNat).toInt ≤ 3 ∧ relsF (tx E qx a0 21) (fi E a0 21).toInt.toNat ((3 - (ai E_112 qr a1.toInt.toNat).toInt.toNat) + 1) (ai E_112 qr a1.toInt.toNat).toInt.toNat (fi E_112 a0 22).toInt.toNat = (readI (tx E qx a0 21) (fi E a0 21).toInt.toNat)) → (∀ k : Nat, k ∉ ([5, 6, 22] : List Nat) → fi E_240 a0 k = fi E a0 k) → (0 ≤ (fi E_240 a0 22).toInt ∧ (fi E_240 a0 22).toInt ≤ 120) → lv_has l_240 7 [(0, .ref a0), (1, .int a1), (4, .int x4_112), (5, .int x5_240)] → W p l e { frames := 4, cells := 0, slots := 0, locals := 101 } s m args below meth c H_240 k_240 0 0 QQ (F0 m 240 l_240 [.int y2_240, .int y1_240, .ref y0_240]) := by
        intro x5_240 y0_240 y1_240 y2_240 E_240 H_240 k_240 l_240 S_240 F_240 z27 z28 z29 z30 z31 z32 z33 z34 z35 z36 z37 z38 z39 z40 z41 z42 z43 z44 z45 hl_240
        have a112s := z43.2.2
        have a112b : 0 ≤ (ai E_112 qr a1.toInt.toNat).toInt ∧ (ai E_112 qr a1.toInt.toNat).toInt ≤ 3 := ⟨z43.1, z43.2.1⟩
        refine tr_iast Z.1 Z.2.2.2.1 S_240.1 S_240.2 z33 z34 rfl (by omega) (by omega) (by have := fb_rng y2_240; omega) (by have := fb_rng y2_240; omega) dX10_read_240 (fun E46 H47 k48 W46 I46 P46 => ?_)
        have S46 : Now D TB cy (va_A (va_pl L E) sz) s L τ E46 H47 k48 := ⟨W46, I46⟩
        have F46 : Fr L τ (inW [(11, 0), (74, 0), (75, 0), (76, 0), (77, 0), (78, 0), (79, 0), (80, 0)]) E E46 := Fr.set F_240 P46 z34 rfl
        refine lv_aload_n hx hb dX10_read_241 rfl (lv_at hl_240 0 rfl) ?_
        refine lv_iload_n hx hb dX10_read_242 rfl (lv_at hl_240 1 rfl) ?_
        obtain ⟨v49, ev49, tv49⟩ : ∃ v : Int32, Int32.ofInt (2) = v ∧ v.toInt = 2 := ⟨_, rfl, by decide +kernel⟩
        refine lv_iconst hx hb dX10_read_243 ev49 ?_
        refine lv_iload hx hb dX10_read_244 (lv_at hl_240 3 rfl) ?_
        refine lv_imul hx hb dX10_read_246 ?_
        refine lv_topi (fun v50 ev50 => ?_)
        have tv50 := nu_mulc' (2) ev50 (by omega) (by omega) (by omega)
        obtain ⟨v51, ev51, tv51⟩ : ∃ v : Int32, Int32.ofInt (1) = v ∧ v.toInt = 1 := ⟨_, rfl, by decide +kernel⟩
        refine lv_iconst hx hb dX10_read_247 ev51 ?_
        refine lv_iadd hx hb dX10_read_248 ?_
        refine lv_topi (fun v52 ev52 => ?_)
        have tv52 := nu_add ev52 (by omega) (by omega)
        have fe_249a : fi E46 a0 21 = fi E a0 21 := ((fi_set (k := 21) P46 (ne_ro ta0 z34 (by decide))).trans (z44 21 (by decide)))
        have tq_249a : tx E46 qx a0 21 = (tx E qx a0 21) := tx_same (F46 qx hqx (by rw [tqx]; rfl)) fe_249a
        have po_249a : (fi E46 a0 22).toInt = (((relI (tx E qx a0 21) (fi E a0 21).toInt.toNat (sumI (tx E qx a0 21) (fi E a0 21).toInt.toNat (fi E_112 a0 22).toInt.toNat).2.2).2.2 : Nat) : Int) := by rw [(fi_set (k := 22) P46 (ne_ro ta0 z34 (by decide)))]; exact z42.2.2.2
        have f0_249 : (fi E46 a0 5).toInt = 0 := (by rw [(fi_set (k := 5) P46 (ne_ro ta0 z34 (by decide)))]; exact z42.1)
        refine tc_vv Z.1 Z.2.2.2.1 Z.2.2.2.2.1 Z.2.2.2.2.2 S46.1 S46.2 ha0 ta0 rfl rfl (k_X10_sum_vr l D cy S46.2 ha0 ta0 a1 (by omega) (by omega) v52 (by omega) (by omega) hql tql hqm tqm hqd tqd hqx tqx f0_249) (cwV 2 hts gX10_read_X10_sum rfl rfl rfl (by decide +kernel) ⟨Nat.le_of_ble_eq_true rfl, Nat.le_of_ble_eq_true rfl⟩) rfl hl_240.1 rfl (Nat.le_of_ble_eq_true rfl) dX10_read_249 ⟨Nat.zero_le _, Nat.zero_le _⟩ (fun E53 H54 k55 W53 I53 G53 p53 => ?_)
        obtain ⟨p53_0, p53_1, p53_2, p53_3, p53_4, p53_5⟩ := p53
        have S53 : Now D TB cy (va_A (va_pl L E) sz) s L τ E53 H54 k55 := ⟨W53, I53⟩
        have F53 : Fr L τ (inW [(11, 0), (74, 0), (75, 0), (76, 0), (77, 0), (78, 0), (79, 0), (80, 0)]) E E53 := F46.trans (G53.mono (inW_mono (by decide)))
        have q53e : ai E46 qr a1.toInt.toNat = ai E_240 qr a1.toInt.toNat := (ai_set P46 (ne_ro tqr z34 (by decide)))
        have q53r : 2 * (ai E46 qr a1.toInt.toNat).toInt ≤ ((v52.toInt.toNat : Nat) : Int) := by rw [q53e]; omega
        have q53a0 := part_sum S46.2 hqm tqm (z41.same (P46.1 ql (ne_ro tql z34 (by decide))) (P46.1 qm (ne_ro tqm z34 (by decide))) (P46.1 qd (ne_ro tqd z34 (by decide)))) p53_0 p53_1 p53_2 (by omega) (by omega) (by omega)
        have ds_249 : Did (fi E53 a0 5).toInt (fi E53 a0 6).toInt (fi E53 a0 22).toInt (sumI (tx E qx a0 21) (fi E a0 21).toInt.toNat (relI (tx E qx a0 21) (fi E a0 21).toInt.toNat (sumI (tx E qx a0 21) (fi E a0 21).toInt.toNat (fi E_112 a0 22).toInt.toNat).2.2).2.2) := by have q := p53_4; rw [tq_249a, fe_249a, show (fi E46 a0 22).toInt.toNat = (relI (tx E qx a0 21) (fi E a0 21).toInt.toNat (sumI (tx E qx a0 21) (fi E a0 21).toInt.toNat (fi E_112 a0 22).toInt.toNat).2.2).2.2 from by omega] at q; exact q
        have kp_249f := fi_rng (k := 5) S53.2 ha0 ta0 rfl rfl
        have kp_249p := fi_rng (k := 22) S53.2 ha0 ta0 rfl rfl
        refine lv_aload_n hx hb dX10_read_252 rfl (lv_at hl_240 0 rfl) ?_
        refine tc_vi Z.1 Z.2.2.2.1 Z.2.2.2.2.1 Z.2.2.2.2.2 S53.1 S53.2 ha0 ta0 rfl rfl (k_X10_bad l D cy S53.2 ha0 ta0) (cwV 0 hts gX10_read_X10_bad rfl rfl rfl (by decide +kernel) ⟨Nat.le_of_ble_eq_true rfl, Nat.le_of_ble_eq_true rfl⟩) rfl hl_240.1 rfl (Nat.le_of_ble_eq_true rfl) dX10_read_253 ⟨Nat.zero_le _, Nat.zero_le _⟩ (fun v60 E57 H58 k59 W57 I57 G57 p57 => ?_)
        obtain ⟨q57, p57_0, p57_1, p57_2⟩ := p57
        have q57 := q57.symm
        subst q57
        have S57 : Now D TB cy (va_A (va_pl L E) sz) s L τ E53 H58 k59 := ⟨W57, I57⟩
        refine lv_if_eq (tgt := 260) hx hb dX10_read_256 (by decide) (fun c61 => ?_) (fun c61 => ?_)
        · skip
          have tc61 := nu_eq c61
          have uc61 : (0 : Int32).toInt = 0 := rfl
          have ec_249 : (compI (tx E qx a0 21) (fi E a0 21).toInt.toNat (fi E_112 a0 22).toInt.toNat) = (sumI (tx E qx a0 21) (fi E a0 21).toInt.toNat (relI (tx E qx a0 21) (fi E a0 21).toInt.toNat (sumI (tx E qx a0 21) (fi E a0 21).toInt.toNat (fi E_112 a0 22).toInt.toNat).2.2).2.2) := comp_3 (fun w => w z42.2.1) (fun w => w z42.2.2.1)
          have ge_249 := sum_ge (B := (tx E qx a0 21)) (n := (fi E a0 21).toInt.toNat) 9 0 (relI (tx E qx a0 21) (fi E a0 21).toInt.toNat (sumI (tx E qx a0 21) (fi E a0 21).toInt.toNat (fi E_112 a0 22).toInt.toNat).2.2).2.2
          have e1_249 := ds_249.1
          have f5_249 : (fi E53 a0 5).toInt = 0 := by have q : 0 ≤ (sumI (tx E qx a0 21) (fi E a0 21).toInt.toNat (relI (tx E qx a0 21) (fi E a0 21).toInt.toNat (sumI (tx E qx a0 21) (fi E a0 21).toInt.toNat (fi E_112 a0 22).toInt.toNat).2.2).2.2).1 := ge_249; omega
          have r0_249 : (compI (tx E qx a0 21) (fi E a0 21).toInt.toNat (fi E_112 a0 22).toInt.toNat).1 = 0 := by rw [ec_249]; exact ds_249.1.symm.trans f5_249
          have pr_249 : (fi E53 a0 22).toInt = (((compI (tx E qx a0 21) (fi E a0 21).toInt.toNat (fi E_112 a0 22).toInt.toNat).2.2 : Nat) : Int) := by rw [ec_249]; exact ds_249.2.2 (ds_249.1.symm.trans f5_249)
          refine lv_aload_n hx hb dX10_read_260 rfl (lv_at hl_240 0 rfl) ?_
          refine tr_getr Z.1 Z.2.2.2.1 S57.1 S57.2 ha0 ta0 rfl rfl (fun _ h => List.mem_cons_of_mem _ (List.mem_append_right _ h)) 25 (by decide) rfl (hts _ (List.mem_of_getElem? (i := 3) rfl)) dX10_read_261 (fun q62 eq62 hq62 tq62 => ?_)
          have tq62 : τ q62 = (76, 0) := tq62
          have uq62 : qr = q62 := S57.2.2.2.2 _ hqr _ hq62 (tqr.trans tq62.symm) (by rw [tqr]; rfl)
          subst uq62
          refine lv_iload_n hx hb dX10_read_264 rfl (lv_at hl_240 1 rfl) ?_
          refine lv_dup2_11 hx hb dX10_read_265 rfl rfl ?_
          refine tr_iald Z.1 Z.2.2.2.1 S57.1 S57.2 hqr tqr rfl (by omega) (by omega) dX10_read_266 (fun v63 ev63 lv63 uv63 => ?_)
          have q53v : v63.toInt = x5_240.toInt := by rw [← show ai E53 qr a1.toInt.toNat = v63 from ev63, show ai E53 qr a1.toInt.toNat = ai E46 qr a1.toInt.toNat from congrFun (ai_cell (G53 qr hqr (by rw [tqr]; rfl))) _, q53e]; omega
          have q53a : PartOK E53 ql qm qd a1.toInt.toNat (2 * v63.toInt.toNat) := by rw [q53v]; exact q53a0
          have q53b : PartOK E53 ql qm qd a1.toInt.toNat (2 * v63.toInt.toNat + 1) := by have q := p53_3 (by omega); rw [show v52.toInt.toNat = 2 * v63.toInt.toNat + 1 from by omega] at q; exact q
          obtain ⟨v64, ev64, tv64⟩ : ∃ v : Int32, Int32.ofInt (1) = v ∧ v.toInt = 1 := ⟨_, rfl, by decide +kernel⟩
          refine lv_iconst hx hb dX10_read_267 ev64 ?_
          refine lv_iadd hx hb dX10_read_268 ?_
          refine lv_topi (fun v65 ev65 => ?_)
          have tv65 := nu_add ev65 (by omega) (by omega)
          refine tr_iast Z.1 Z.2.2.2.1 S57.1 S57.2 hqr tqr rfl (by omega) (by omega) (by omega) (by omega) dX10_read_269 (fun E66 H67 k68 W66 I66 P66 => ?_)
          have S66 : Now D TB cy (va_A (va_pl L E) sz) s L τ E66 H67 k68 := ⟨W66, I66⟩
          have F66 : Fr L τ (inW [(11, 0), (74, 0), (75, 0), (76, 0), (77, 0), (78, 0), (79, 0), (80, 0)]) E E66 := Fr.set F53 P66 tqr rfl
          refine lv_aload_n hx hb dX10_read_270 rfl (lv_at hl_240 0 rfl) ?_
          have fe_271a : fi E66 a0 21 = fi E a0 21 := (((fi_set (k := 21) P66 (ne_ro ta0 tqr (by decide))).trans ((p53_5 21 (by decide)).trans (fi_set (k := 21) P46 (ne_ro ta0 z34 (by decide))))).trans (z44 21 (by decide)))
          have tq_271a : tx E66 qx a0 21 = (tx E qx a0 21) := tx_same (F66 qx hqx (by rw [tqx]; rfl)) fe_271a
          have po_271a : (fi E66 a0 22).toInt = (((compI (tx E qx a0 21) (fi E a0 21).toInt.toNat (fi E_112 a0 22).toInt.toNat).2.2 : Nat) : Int) := by rw [(fi_set (k := 22) P66 (ne_ro ta0 tqr (by decide)))]; exact pr_249
          refine tc_vi Z.1 Z.2.2.2.1 Z.2.2.2.2.1 Z.2.2.2.2.2 S66.1 S66.2 ha0 ta0 rfl rfl (k_X10_look_vr l D cy S66.2 ha0 ta0 hqx tqx) (cwV 0 hts gX10_read_X10_look rfl rfl rfl (by decide +kernel) ⟨Nat.le_of_ble_eq_true rfl, Nat.le_of_ble_eq_true rfl⟩) rfl hl_240.1 rfl (Nat.le_of_ble_eq_true rfl) dX10_read_271 ⟨Nat.zero_le _, Nat.zero_le _⟩ (fun v72 E69 H70 k71 W69 I69 G69 p69 => ?_)
          obtain ⟨q69, p69_0, p69_1, p69_2, p69_3⟩ := p69
          have q69 := q69.symm
          subst q69
          have S69 : Now D TB cy (va_A (va_pl L E) sz) s L τ E66 H70 k71 := ⟨W69, I69⟩
          try rw [((fi_set (k := 22) P66 (ne_ro ta0 tqr (by decide))).trans rfl)] at p69_0
          have pk_271 : v72.toInt = pkI (tx E qx a0 21) (fi E a0 21).toInt.toNat (compI (tx E qx a0 21) (fi E a0 21).toInt.toNat (fi E_112 a0 22).toInt.toNat).2.2 := by have q := p69_1; rw [tq_271a, fe_271a, show (fi E66 a0 22).toInt.toNat = (compI (tx E qx a0 21) (fi E a0 21).toInt.toNat (fi E_112 a0 22).toInt.toNat).2.2 from by omega] at q; exact q
          obtain ⟨v73, ev73, tv73⟩ : ∃ v : Int32, Int32.ofInt (-1) = v ∧ v.toInt = -1 := ⟨_, rfl, by decide +kernel⟩
          refine lv_iconst hx hb dX10_read_274 ev73 ?_
          refine lv_icmp_ne (tgt := 284) hx hb dX10_read_275 (by decide) (fun c74 => ?_) (fun c74 => ?_)
          · skip
            have tc74 := nu_ne c74
            refine lv_aload_n hx hb dX10_read_284 rfl (lv_at hl_240 0 rfl) ?_
            have fe_285a : fi E66 a0 21 = fi E a0 21 := (((fi_set (k := 21) P66 (ne_ro ta0 tqr (by decide))).trans ((p53_5 21 (by decide)).trans (fi_set (k := 21) P46 (ne_ro ta0 z34 (by decide))))).trans (z44 21 (by decide)))
            have tq_285a : tx E66 qx a0 21 = (tx E qx a0 21) := tx_same (F66 qx hqx (by rw [tqx]; rfl)) fe_285a
            have po_285a : (fi E66 a0 22).toInt = (((compI (tx E qx a0 21) (fi E a0 21).toInt.toNat (fi E_112 a0 22).toInt.toNat).2.2 : Nat) : Int) := by rw [(fi_set (k := 22) P66 (ne_ro ta0 tqr (by decide)))]; exact pr_249
            refine tc_vl Z.1 Z.2.2.2.1 Z.2.2.2.2.1 Z.2.2.2.2.2 S69.1 S69.2 ha0 ta0 rfl rfl (k_X10_wordAt_vr l D cy S69.2 ha0 ta0 hqx tqx) (cwV 0 hts gX10_read_X10_wordAt rfl rfl rfl (by decide +kernel) ⟨Nat.le_of_ble_eq_true rfl, Nat.le_of_ble_eq_true rfl⟩) rfl hl_240.1 rfl (Nat.le_of_ble_eq_true rfl) dX10_read_285 ⟨Nat.zero_le _, Nat.zero_le _⟩ (fun v78 E75 H76 k77 W75 I75 G75 p75 => ?_)
            obtain ⟨q75, p75_0⟩ := p75
            have q75 := q75.symm
            subst q75
            have S75 : Now D TB cy (va_A (va_pl L E) sz) s L τ E66 H76 k77 := ⟨W75, I75⟩
            have wd_285 : v78.toInt = wdI (tx E qx a0 21) (fi E a0 21).toInt.toNat (compI (tx E qx a0 21) (fi E a0 21).toInt.toNat (fi E_112 a0 22).toInt.toNat).2.2 := by have q := p75_0; rw [tq_285a, fe_285a, show (fi E66 a0 22).toInt.toNat = (compI (tx E qx a0 21) (fi E a0 21).toInt.toNat (fi E_112 a0 22).toInt.toNat).2.2 from by omega] at q; exact q
            refine lv_aload_n hx hb dX10_read_288 rfl (lv_at hl_240 0 rfl) ?_
            obtain ⟨v79, ev79, tv79⟩ : ∃ v : Int32, (Int8.ofInt (97)).toInt32 = v ∧ v.toInt = 97 := ⟨_, rfl, by decide +kernel⟩
            refine lv_bipush hx hb dX10_read_289 ev79 ?_
            obtain ⟨v80, ev80, tv80⟩ : ∃ v : Int32, (Int8.ofInt (110)).toInt32 = v ∧ v.toInt = 110 := ⟨_, rfl, by decide +kernel⟩
            refine lv_bipush hx hb dX10_read_291 ev80 ?_
            obtain ⟨v81, ev81, tv81⟩ : ∃ v : Int32, (Int8.ofInt (100)).toInt32 = v ∧ v.toInt = 100 := ⟨_, rfl, by decide +kernel⟩
            refine lv_bipush hx hb dX10_read_293 ev81 ?_
            obtain ⟨v82, ev82, tv82⟩ : ∃ v : Int32, Int32.ofInt (0) = v ∧ v.toInt = 0 := ⟨_, rfl, by decide +kernel⟩
            refine lv_iconst hx hb dX10_read_295 ev82 ?_
            obtain ⟨v83, ev83, tv83⟩ : ∃ v : Int32, Int32.ofInt (0) = v ∧ v.toInt = 0 := ⟨_, rfl, by decide +kernel⟩
            refine lv_iconst hx hb dX10_read_296 ev83 ?_
            obtain ⟨v84, ev84, tv84⟩ : ∃ v : Int32, Int32.ofInt (0) = v ∧ v.toInt = 0 := ⟨_, rfl, by decide +kernel⟩
            refine lv_iconst hx hb dX10_read_297 ev84 ?_
            refine tc_vl Z.1 Z.2.2.2.1 Z.2.2.2.2.1 Z.2.2.2.2.2 S75.1 S75.2 ha0 ta0 rfl rfl (k_X10_packed_vr l D cy S75.2 ha0 ta0 v79 (by omega) (by omega) v80 (by omega) (by omega) v81 (by omega) (by omega) v82 (by omega) (by omega) v83 (by omega) (by omega) v84 (by omega) (by omega) (by omega) (by omega) (by omega) (by omega) (by omega) (by omega)) (cwV 6 hts gX10_read_X10_packed rfl rfl rfl (by decide +kernel) ⟨Nat.le_of_ble_eq_true rfl, Nat.le_of_ble_eq_true rfl⟩) rfl hl_240.1 rfl (Nat.le_of_ble_eq_true rfl) dX10_read_298 ⟨Nat.zero_le _, Nat.zero_le _⟩ (fun v88 E85 H86 k87 W85 I85 G85 p85 => ?_)
            obtain ⟨q85, p85_0⟩ := p85
            have q85 := q85.symm
            subst q85
            have S85 : Now D TB cy (va_A (va_pl L E) sz) s L τ E66 H86 k87 := ⟨W85, I85⟩
            have n298 : v88.toInt = wV 10 := by have q := p85_0; rw [tv79, tv80, tv81, tv82, tv83, tv84] at q; exact q.trans (by decide +kernel)
            refine W.lcmp hx hb dX10_read_301 ?_
            refine lv_topi (fun v89 ev89 => ?_)
            have tv89 := nl_cmp ev89
            refine lv_if_eq (tgt := 317) hx hb dX10_read_302 (by decide) (fun c90 => ?_) (fun c90 => ?_)
            · skip
              have tc90 := nu_eq c90
              have uc90 : (0 : Int32).toInt = 0 := rfl
              refine lv_aload_n hx hb dX10_read_317 rfl (lv_at hl_240 0 rfl) ?_
              refine tr_getr Z.1 Z.2.2.2.1 S85.1 S85.2 ha0 ta0 rfl rfl (fun _ h => List.mem_cons_of_mem _ (List.mem_append_right _ h)) 25 (by decide) rfl (hts _ (List.mem_of_getElem? (i := 3) rfl)) dX10_read_318 (fun q91 eq91 hq91 tq91 => ?_)
              have tq91 : τ q91 = (76, 0) := tq91
              have uq91 : qr = q91 := S85.2.2.2.2 _ hqr _ hq91 (tqr.trans tq91.symm) (by rw [tqr]; rfl)
              subst uq91
              refine lv_iload_n hx hb dX10_read_321 rfl (lv_at hl_240 1 rfl) ?_
              refine tr_iald Z.1 Z.2.2.2.1 S85.1 S85.2 hqr tqr rfl (by omega) (by omega) dX10_read_322 (fun v92 ev92 lv92 uv92 => ?_)
              have q322 : v92.toInt = (ai E_112 qr a1.toInt.toNat).toInt + 1 := by rw [← show ai E66 qr a1.toInt.toNat = v92 from ev92]; exact (by rw [show ai E66 qr a1.toInt.toNat = v65 from P66.2.1]; omega)
              obtain ⟨v93, ev93, tv93⟩ : ∃ v : Int32, Int32.ofInt (4) = v ∧ v.toInt = 4 := ⟨_, rfl, by decide +kernel⟩
              refine lv_iconst hx hb dX10_read_323 ev93 ?_
              refine lv_icmp_ne (tgt := 336) hx hb dX10_read_324 (by decide) (fun c94 => ?_) (fun c94 => ?_)
              · skip
                have tc94 := nu_ne c94
                exact J336 x4_112 E66 H86 k87 l_240 S85 F66 (by omega) (by omega) (by omega) (by omega) (slot_inc (sl_sum S46.2 hqr tqr hqm tqm (SlotW.same z39 (P46.1 ql (ne_ro tql z34 (by decide))) (P46.1 qr (ne_ro tqr z34 (by decide))) (P46.1 qm (ne_ro tqm z34 (by decide))) (P46.1 qd (ne_ro tqd z34 (by decide)))) p53_0 (G53 qr hqr (by rw [tqr]; rfl)) p53_1 p53_2 (by omega) (by have := q53r; omega)) (r := v63) ev63 (by omega) (by omega) q53a q53b P66 (ne_ro tql tqr (by decide)) (ne_ro tqm tqr (by decide)) (ne_ro tqd tqr (by decide))) (fun _ => by have q : ai E66 qr a1.toInt.toNat = v92 := ev92; rw [q]; omega) (by rw [show ai E66 qr a1.toInt.toNat = v65 from P66.2.1]; omega) ⟨r0_249, (by rw [(fi_set (k := 22) P66 (ne_ro ta0 tqr (by decide)))]; exact pr_249), (by rw [← pk_271]; omega), by rw [and_ok (by rw [← wd_285]; omega) (by have q := q322; omega)]; exact DidF.ok (by rw [(fi_set (k := 5) P66 (ne_ro ta0 tqr (by decide)))]; exact f5_249), fun _ => by rw [and_ok (by rw [← wd_285]; omega) (by have q := q322; omega)]⟩ z43 (fun k hk => ((fi_set P66 (ne_ro ta0 tqr (by decide))).trans ((p53_5 k (fw_sub (by decide) hk)).trans ((fi_set P46 (ne_ro ta0 z34 (by decide))).trans (z44 k hk))))) (by rw [((fi_set (k := 5) P66 (ne_ro ta0 tqr (by decide))).trans rfl)]; omega) (by rw [((fi_set (k := 22) P66 (ne_ro ta0 tqr (by decide))).trans rfl)]; omega) (lv_sub hl_240 [0, 1, 2] rfl)
              · skip
                have tc94 := nu_eq c94
                refine lv_aload_n hx hb dX10_read_327 rfl (lv_at hl_240 0 rfl) ?_
                obtain ⟨v95, ev95, tv95⟩ : ∃ v : Int32, Int32.ofInt (3) = v ∧ v.toInt = 3 := ⟨_, rfl, by decide +kernel⟩
                refine lv_iconst hx hb dX10_read_328 ev95 ?_
                refine lv_aload_n hx hb dX10_read_329 rfl (lv_at hl_240 0 rfl) ?_
                refine tr_geti Z.1 Z.2.2.2.1 S85.1 S85.2 ha0 ta0 rfl rfl (fun _ h => List.mem_cons_of_mem _ (List.mem_append_right _ h)) 22 (by decide) rfl (hts _ (List.mem_of_getElem? (i := 1) rfl)) dX10_read_330 (fun v96 ev96 lv96 uv96 => ?_)
                have wv96 : v96 = (fi E53 a0 22) := ev96.symm.trans ((fi_set (k := 22) P66 (ne_ro ta0 tqr (by decide))).trans rfl)
                have xv96 : v96.toInt = (fi E53 a0 22).toInt := by rw [wv96]
                have f0_333 : (fi E66 a0 5).toInt = 0 := (by rw [(fi_set (k := 5) P66 (ne_ro ta0 tqr (by decide)))]; exact f5_249)
                refine tc_vv Z.1 Z.2.2.2.1 Z.2.2.2.2.1 Z.2.2.2.2.2 S85.1 S85.2 ha0 ta0 rfl rfl (k_X10_wrong_vr l D cy S85.2 ha0 ta0 v95 (by omega) (by omega) v96) (cwV 2 hts gX10_read_X10_wrong rfl rfl rfl (by decide +kernel) ⟨Nat.le_of_ble_eq_true rfl, Nat.le_of_ble_eq_true rfl⟩) rfl hl_240.1 rfl (Nat.le_of_ble_eq_true rfl) dX10_read_333 ⟨Nat.zero_le _, Nat.zero_le _⟩ (fun E97 H98 k99 W97 I97 G97 p97 => ?_)
                obtain ⟨p97_0, p97_1⟩ := p97
                have S97 : Now D TB cy (va_A (va_pl L E) sz) s L τ E97 H98 k99 := ⟨W97, I97⟩
                have F97 : Fr L τ (inW [(11, 0), (74, 0), (75, 0), (76, 0), (77, 0), (78, 0), (79, 0), (80, 0)]) E E97 := F66.trans (G97.mono (inW_mono (by decide)))
                have ff_333 : (fi E97 a0 5).toInt = v95.toInt ∧ (fi E97 a0 6).toInt = v96.toInt := by rcases p97_0 with q | q; omega; exact q.2
                exact J336 x4_112 E97 H98 k99 l_240 S97 F97 (by omega) (by omega) (by omega) (by omega) (SlotW.same (slot_inc (sl_sum S46.2 hqr tqr hqm tqm (SlotW.same z39 (P46.1 ql (ne_ro tql z34 (by decide))) (P46.1 qr (ne_ro tqr z34 (by decide))) (P46.1 qm (ne_ro tqm z34 (by decide))) (P46.1 qd (ne_ro tqd z34 (by decide)))) p53_0 (G53 qr hqr (by rw [tqr]; rfl)) p53_1 p53_2 (by omega) (by have := q53r; omega)) (r := v63) ev63 (by omega) (by omega) q53a q53b P66 (ne_ro tql tqr (by decide)) (ne_ro tqm tqr (by decide)) (ne_ro tqd tqr (by decide))) (G97 ql hql (by rw [tql]; rfl)) (G97 qr hqr (by rw [tqr]; rfl)) (G97 qm hqm (by rw [tqm]; rfl)) (G97 qd hqd (by rw [tqd]; rfl))) (fun h => absurd h (by omega)) (by rw [show ai E97 qr a1.toInt.toNat = v65 from ((ai_fr G97 hqr (by rw [tqr]; rfl)).trans P66.2.1)]; omega) ⟨r0_249, (by rw [((p97_1 22 (by decide)).trans (fi_set (k := 22) P66 (ne_ro ta0 tqr (by decide))))]; exact pr_249), (by rw [← pk_271]; omega), by rw [and_long (by rw [← wd_285]; omega) (by have q := q322; omega)]; exact (Did.bad (p := 0) (by decide) (by omega) (by omega)).f, fun w => absurd w (by rw [and_long (by rw [← wd_285]; omega) (by have q := q322; omega)]; exact ne_b (by decide))⟩ z43 (fun k hk => ((p97_1 k (fw_sub (by decide) hk)).trans ((fi_set P66 (ne_ro ta0 tqr (by decide))).trans ((p53_5 k (fw_sub (by decide) hk)).trans ((fi_set P46 (ne_ro ta0 z34 (by decide))).trans (z44 k hk)))))) (by omega) (by rw [((p97_1 22 (by decide)).trans ev96)]; omega) (lv_sub hl_240 [0, 1, 2] rfl)
            · skip
              have tc90 := nu_ne c90
              have uc90 : (0 : Int32).toInt = 0 := rfl
              refine lv_aload_n hx hb dX10_read_305 rfl (lv_at hl_240 0 rfl) ?_
              obtain ⟨v101, ev101, tv101⟩ : ∃ v : Int32, Int32.ofInt (1) = v ∧ v.toInt = 1 := ⟨_, rfl, by decide +kernel⟩
              refine lv_iconst hx hb dX10_read_306 ev101 ?_
              refine lv_aload_n hx hb dX10_read_307 rfl (lv_at hl_240 0 rfl) ?_
              refine tr_geti Z.1 Z.2.2.2.1 S85.1 S85.2 ha0 ta0 rfl rfl (fun _ h => List.mem_cons_of_mem _ (List.mem_append_right _ h)) 22 (by decide) rfl (hts _ (List.mem_of_getElem? (i := 1) rfl)) dX10_read_308 (fun v102 ev102 lv102 uv102 => ?_)
              have wv102 : v102 = (fi E53 a0 22) := ev102.symm.trans ((fi_set (k := 22) P66 (ne_ro ta0 tqr (by decide))).trans rfl)
              have xv102 : v102.toInt = (fi E53 a0 22).toInt := by rw [wv102]
              have f0_311 : (fi E66 a0 5).toInt = 0 := (by rw [(fi_set (k := 5) P66 (ne_ro ta0 tqr (by decide)))]; exact f5_249)
              refine tc_vv Z.1 Z.2.2.2.1 Z.2.2.2.2.1 Z.2.2.2.2.2 S85.1 S85.2 ha0 ta0 rfl rfl (k_X10_wrong_vr l D cy S85.2 ha0 ta0 v101 (by omega) (by omega) v102) (cwV 2 hts gX10_read_X10_wrong rfl rfl rfl (by decide +kernel) ⟨Nat.le_of_ble_eq_true rfl, Nat.le_of_ble_eq_true rfl⟩) rfl hl_240.1 rfl (Nat.le_of_ble_eq_true rfl) dX10_read_311 ⟨Nat.zero_le _, Nat.zero_le _⟩ (fun E103 H104 k105 W103 I103 G103 p103 => ?_)
              obtain ⟨p103_0, p103_1⟩ := p103
              have S103 : Now D TB cy (va_A (va_pl L E) sz) s L τ E103 H104 k105 := ⟨W103, I103⟩
              have F103 : Fr L τ (inW [(11, 0), (74, 0), (75, 0), (76, 0), (77, 0), (78, 0), (79, 0), (80, 0)]) E E103 := F66.trans (G103.mono (inW_mono (by decide)))
              have ff_311 : (fi E103 a0 5).toInt = v101.toInt ∧ (fi E103 a0 6).toInt = v102.toInt := by rcases p103_0 with q | q; omega; exact q.2
              refine lv_goto (tgt := 336) hx hb dX10_read_314 (by decide) ?_
              exact J336 x4_112 E103 H104 k105 l_240 S103 F103 (by omega) (by omega) (by omega) (by omega) (SlotW.same (slot_inc (sl_sum S46.2 hqr tqr hqm tqm (SlotW.same z39 (P46.1 ql (ne_ro tql z34 (by decide))) (P46.1 qr (ne_ro tqr z34 (by decide))) (P46.1 qm (ne_ro tqm z34 (by decide))) (P46.1 qd (ne_ro tqd z34 (by decide)))) p53_0 (G53 qr hqr (by rw [tqr]; rfl)) p53_1 p53_2 (by omega) (by have := q53r; omega)) (r := v63) ev63 (by omega) (by omega) q53a q53b P66 (ne_ro tql tqr (by decide)) (ne_ro tqm tqr (by decide)) (ne_ro tqd tqr (by decide))) (G103 ql hql (by rw [tql]; rfl)) (G103 qr hqr (by rw [tqr]; rfl)) (G103 qm hqm (by rw [tqm]; rfl)) (G103 qd hqd (by rw [tqd]; rfl))) (fun h => absurd h (by omega)) (by rw [show ai E103 qr a1.toInt.toNat = v65 from ((ai_fr G103 hqr (by rw [tqr]; rfl)).trans P66.2.1)]; omega) ⟨r0_249, (by rw [((p103_1 22 (by decide)).trans (fi_set (k := 22) P66 (ne_ro ta0 tqr (by decide))))]; exact pr_249), (by rw [← pk_271]; omega), by rw [and_no (by rw [← wd_285]; omega)]; exact (Did.bad (p := 0) (by decide) (by omega) (by omega)).f, fun w => absurd w (by rw [and_no (by rw [← wd_285]; omega)]; exact ne_b (by decide))⟩ z43 (fun k hk => ((p103_1 k (fw_sub (by decide) hk)).trans ((fi_set P66 (ne_ro ta0 tqr (by decide))).trans ((p53_5 k (fw_sub (by decide) hk)).trans ((fi_set P46 (ne_ro ta0 z34 (by decide))).trans (z44 k hk)))))) (by omega) (by rw [((p103_1 22 (by decide)).trans ev102)]; omega) (lv_sub hl_240 [0, 1, 2] rfl)
          · skip
            have tc74 := nu_eq c74
            obtain ⟨v107, ev107, tv107⟩ : ∃ v : Int32, Int32.ofInt (0) = v ∧ v.toInt = 0 := ⟨_, rfl, by decide +kernel⟩
            refine lv_iconst hx hb dX10_read_278 ev107 ?_
            refine lv_istore (lv' := [(4, .int v107), (0, .ref a0), (1, .int a1), (5, .int x5_240)]) hx hb dX10_read_279 hl_240 (by decide) rfl (fun l108 hl109 => ?_)
            refine lv_goto (tgt := 112) hx hb dX10_read_281 (by decide) ?_
            exact ih_112 v107 E66 H70 k71 l108 S69 F66 (by omega) (by omega) (by omega) (by omega) (slot_inc (sl_sum S46.2 hqr tqr hqm tqm (SlotW.same z39 (P46.1 ql (ne_ro tql z34 (by decide))) (P46.1 qr (ne_ro tqr z34 (by decide))) (P46.1 qm (ne_ro tqm z34 (by decide))) (P46.1 qd (ne_ro tqd z34 (by decide)))) p53_0 (G53 qr hqr (by rw [tqr]; rfl)) p53_1 p53_2 (by omega) (by have := q53r; omega)) (r := v63) ev63 (by omega) (by omega) q53a q53b P66 (ne_ro tql tqr (by decide)) (ne_ro tqm tqr (by decide)) (ne_ro tqd tqr (by decide))) (fun h => by omega) (Or.inr ⟨by omega, by rw [← a112s, rels_end (fun w => w r0_249) (by rw [← pk_271]; omega)]; exact DidF.ok (by rw [(fi_set (k := 5) P66 (ne_ro ta0 tqr (by decide)))]; exact f5_249)⟩) (fun k hk => ((fi_set P66 (ne_ro ta0 tqr (by decide))).trans ((p53_5 k (fw_sub (by decide) hk)).trans ((fi_set P46 (ne_ro ta0 z34 (by decide))).trans (z44 k hk))))) (by rw [((fi_set (k := 5) P66 (ne_ro ta0 tqr (by decide))).trans rfl)]; omega) (by rw [((fi_set (k := 22) P66 (ne_ro ta0 tqr (by decide))).trans rfl)]; omega) (by rw [show ai E66 qr a1.toInt.toNat = v65 from P66.2.1]; omega) (lv_sub hl109 [1, 2, 0] rfl)
        · skip
          have tc61 := nu_ne c61
          have uc61 : (0 : Int32).toInt = 0 := rfl
          rw [← hQ]
          exact en_v Z S57 F53 ⟨(by have b_ : (sumI (tx E qx a0 21) (fi E a0 21).toInt.toNat (relI (tx E qx a0 21) (fi E a0 21).toInt.toNat (sumI (tx E qx a0 21) (fi E a0 21).toInt.toNat (fi E_112 a0 22).toInt.toNat).2.2).2.2).1 ≠ 0 := fun w => absurd (ds_249.1.trans w) (by omega); rw [← a112s, rels_bad (by rw [(comp_3 (fun w => w z42.2.1) (fun w => w z42.2.2.1))]; exact b_), (comp_3 (fun w => w z42.2.1) (fun w => w z42.2.2.1))]; exact ds_249.f), (fun k hk => ((p53_5 k (fw_sub (by decide) hk)).trans ((fi_set P46 (ne_ro ta0 z34 (by decide))).trans (z44 k hk)))), (SlotOK.fin S57.2 hql tql hqr tqr hqm tqm hqd tqd (sl_sum S46.2 hqr tqr hqm tqm (SlotW.same z39 (P46.1 ql (ne_ro tql z34 (by decide))) (P46.1 qr (ne_ro tqr z34 (by decide))) (P46.1 qm (ne_ro tqm z34 (by decide))) (P46.1 qd (ne_ro tqd z34 (by decide)))) p53_0 (G53 qr hqr (by rw [tqr]; rfl)) p53_1 p53_2 (by omega) (by have := q53r; omega)))⟩ dX10_read_259
      have J179 : ∀ (x5_179 : Int32) (x6_179 : Int32) (E_179 : Ec) (H_179 : Heap) (k_179 : List Loc) (l_179 : Array Slot), Now D TB cy (va_A (va_pl L E) sz) s L τ E_179 H_179 k_179 → Fr L τ (inW [(11, 0), (74, 0), (75, 0), (76, 0), (77, 0), (78, 0), (79, 0), (80, 0)]) E E_179 → (0 ≤ a1.toInt) → (a1.toInt ≤ 49) → (1 ≤ x4_112.toInt) → (x4_112.toInt ≤ 1) → (0 ≤ x5_179.toInt) → (x5_179.toInt ≤ 3) → (60 ≤ x6_179.toInt) → (x6_179.toInt ≤ 62) → (SlotW E_179 ql qr qm qd) → ((ai E_179 qr a1.toInt.toNat).toInt = x5_179.toInt ∧ x5_179.toInt ≤ 3 ∧ x5_179.toInt = (ai E_112 qr a1.toInt.toNat).toInt) → (PartOK E_179 ql qm qd a1.toInt.toNat (2 * x5_179.toInt.toNat)) → ((fi E_179 a0 5).toInt = 0 ∧ (sumI (tx E qx a0 21) (fi E a0 21).toInt.toNat (fi E_112 a0 22).toInt.toNat).1 = 0 ∧ (fi E_179 a0 22).toInt = (((sumI (tx E qx a0 21) (fi E a0 21).toInt.toNat (fi E_112 a0 22).toInt.toNat).2.2 : Nat) : Int) ∧ (x6_179.toInt = 60 ∨ x6_179.toInt = 62) ∧ x6_179.toInt = pkI (tx E qx a0 21) (fi E a0 21).toInt.toNat (sumI (tx E qx a0 21) (fi E a0 21).toInt.toNat (fi E_112 a0 22).toInt.toNat).2.2) → (0 ≤ (ai E_112 qr a1.toInt.toNat).toInt ∧ (ai E_112 qr a1.toInt.toNat).toInt ≤ 3 ∧ relsF (tx E qx a0 21) (fi E a0 21).toInt.toNat ((3 - (ai E_112 qr a1.toInt.toNat).toInt.toNat) + 1) (ai E_112 qr a1.toInt.toNat).toInt.toNat (fi E_112 a0 22).toInt.toNat = (readI (tx E qx a0 21) (fi E a0 21).toInt.toNat)) → (∀ k : Nat, k ∉ ([5, 6, 22] : List Nat) → fi E_179 a0 k = fi E a0 k) → (0 ≤ (fi E_179 a0 22).toInt ∧ (fi E_179 a0 22).toInt ≤ 119) → lv_has l_179 7 [(0, .ref a0), (1, .int a1), (4, .int x4_112), (5, .int x5_179), (6, .int x6_179)] → W p l e { frames := 4, cells := 0, slots := 0, locals := 101 } s m args below meth c H_179 k_179 0 0 QQ (F0 m 179 l_179 []) := by
        intro x5_179 x6_179 E_179 H_179 k_179 l_179 S_179 F_179 z110 z111 z112 z113 z114 z115 z116 z117 z118 z119 z120 z121 z122 z123 z124 hl_179
        have a112s := z122.2.2
        have a112b : 0 ≤ (ai E_112 qr a1.toInt.toNat).toInt ∧ (ai E_112 qr a1.toInt.toNat).toInt ≤ 3 := ⟨z122.1, z122.2.1⟩
        refine lv_aload_n hx hb dX10_read_179 rfl (lv_at hl_179 0 rfl) ?_
        refine lv_dup hx hb dX10_read_180 rfl ?_
        refine tr_geti Z.1 Z.2.2.2.1 S_179.1 S_179.2 ha0 ta0 rfl rfl (fun _ h => List.mem_cons_of_mem _ (List.mem_append_right _ h)) 22 (by decide) rfl (hts _ (List.mem_of_getElem? (i := 1) rfl)) dX10_read_181 (fun v125 ev125 lv125 uv125 => ?_)
        have wv125 : v125 = (fi E_179 a0 22) := ev125.symm.trans rfl
        have xv125 : v125.toInt = (fi E_179 a0 22).toInt := by rw [wv125]
        obtain ⟨v126, ev126, tv126⟩ : ∃ v : Int32, Int32.ofInt (1) = v ∧ v.toInt = 1 := ⟨_, rfl, by decide +kernel⟩
        refine lv_iconst hx hb dX10_read_184 ev126 ?_
        refine lv_iadd hx hb dX10_read_185 ?_
        refine lv_topi (fun v127 ev127 => ?_)
        have tv127 := nu_add ev127 (by omega) (by omega)
        refine tr_puti Z.1 Z.2.2.2.1 S_179.1 S_179.2 ha0 ta0 rfl rfl (fun _ h => List.mem_cons_of_mem _ (List.mem_append_right _ h)) tyX10_ok nmX10 22 (by decide) rfl rfl rfl (hts _ (List.mem_of_getElem? (i := 1) rfl)) dX10_read_186 (by omega) (by omega) (fun E128 H129 k130 W128 I128 P128 => ?_)
        have S128 : Now D TB cy (va_A (va_pl L E) sz) s L τ E128 H129 k130 := ⟨W128, I128⟩
        have F128 : Fr L τ (inW [(11, 0), (74, 0), (75, 0), (76, 0), (77, 0), (78, 0), (79, 0), (80, 0)]) E E128 := Fr.put F_179 P128 ta0 rfl
        have po_186 : (fi E128 a0 22).toInt = ((((sumI (tx E qx a0 21) (fi E a0 21).toInt.toNat (fi E_112 a0 22).toInt.toNat).2.2 + 1) : Nat) : Int) := by have q : (fi E_179 a0 22).toInt = (((sumI (tx E qx a0 21) (fi E a0 21).toInt.toNat (fi E_112 a0 22).toInt.toNat).2.2 : Nat) : Int) := z121.2.2.1; rw [(fi_at P128)]; omega
        refine lv_aload_n hx hb dX10_read_189 rfl (lv_at hl_179 0 rfl) ?_
        have fe_190a : fi E128 a0 21 = fi E a0 21 := ((fi_put (k := 21) P128 (Or.inr (by decide))).trans (z123 21 (by decide)))
        have tq_190a : tx E128 qx a0 21 = (tx E qx a0 21) := tx_same (F128 qx hqx (by rw [tqx]; rfl)) fe_190a
        have po_190a : (fi E128 a0 22).toInt = ((((sumI (tx E qx a0 21) (fi E a0 21).toInt.toNat (fi E_112 a0 22).toInt.toNat).2.2 + 1) : Nat) : Int) := po_186
        refine tc_vi Z.1 Z.2.2.2.1 Z.2.2.2.2.1 Z.2.2.2.2.2 S128.1 S128.2 ha0 ta0 rfl rfl (k_X10_look_vr l D cy S128.2 ha0 ta0 hqx tqx) (cwV 0 hts gX10_read_X10_look rfl rfl rfl (by decide +kernel) ⟨Nat.le_of_ble_eq_true rfl, Nat.le_of_ble_eq_true rfl⟩) rfl hl_179.1 rfl (Nat.le_of_ble_eq_true rfl) dX10_read_190 ⟨Nat.zero_le _, Nat.zero_le _⟩ (fun v134 E131 H132 k133 W131 I131 G131 p131 => ?_)
        obtain ⟨q131, p131_0, p131_1, p131_2, p131_3⟩ := p131
        have q131 := q131.symm
        subst q131
        have S131 : Now D TB cy (va_A (va_pl L E) sz) s L τ E128 H132 k133 := ⟨W131, I131⟩
        try rw [(fi_at P128)] at p131_0
        have pk_190 : v134.toInt = pkI (tx E qx a0 21) (fi E a0 21).toInt.toNat ((sumI (tx E qx a0 21) (fi E a0 21).toInt.toNat (fi E_112 a0 22).toInt.toNat).2.2 + 1) := by have q := p131_1; rw [tq_190a, fe_190a, show (fi E128 a0 22).toInt.toNat = ((sumI (tx E qx a0 21) (fi E a0 21).toInt.toNat (fi E_112 a0 22).toInt.toNat).2.2 + 1) from by omega] at q; exact q
        obtain ⟨v135, ev135, tv135⟩ : ∃ v : Int32, (Int8.ofInt (61)).toInt32 = v ∧ v.toInt = 61 := ⟨_, rfl, by decide +kernel⟩
        refine lv_bipush hx hb dX10_read_193 ev135 ?_
        refine lv_icmp_eq (tgt := 208) hx hb dX10_read_195 (by decide) (fun c136 => ?_) (fun c136 => ?_)
        · skip
          have tc136 := nu_eq c136
          refine lv_aload_n hx hb dX10_read_208 rfl (lv_at hl_179 0 rfl) ?_
          refine lv_dup hx hb dX10_read_209 rfl ?_
          refine tr_geti Z.1 Z.2.2.2.1 S131.1 S131.2 ha0 ta0 rfl rfl (fun _ h => List.mem_cons_of_mem _ (List.mem_append_right _ h)) 22 (by decide) rfl (hts _ (List.mem_of_getElem? (i := 1) rfl)) dX10_read_210 (fun v137 ev137 lv137 uv137 => ?_)
          have wv137 : v137 = v127 := ev137.symm.trans (fi_at P128)
          have xv137 : v137.toInt = v127.toInt := by rw [wv137]
          obtain ⟨v138, ev138, tv138⟩ : ∃ v : Int32, Int32.ofInt (1) = v ∧ v.toInt = 1 := ⟨_, rfl, by decide +kernel⟩
          refine lv_iconst hx hb dX10_read_213 ev138 ?_
          refine lv_iadd hx hb dX10_read_214 ?_
          refine lv_topi (fun v139 ev139 => ?_)
          have tv139 := nu_add ev139 (by omega) (by omega)
          refine tr_puti Z.1 Z.2.2.2.1 S131.1 S131.2 ha0 ta0 rfl rfl (fun _ h => List.mem_cons_of_mem _ (List.mem_append_right _ h)) tyX10_ok nmX10 22 (by decide) rfl rfl rfl (hts _ (List.mem_of_getElem? (i := 1) rfl)) dX10_read_215 (by omega) (by omega) (fun E140 H141 k142 W140 I140 P140 => ?_)
          have S140 : Now D TB cy (va_A (va_pl L E) sz) s L τ E140 H141 k142 := ⟨W140, I140⟩
          have F140 : Fr L τ (inW [(11, 0), (74, 0), (75, 0), (76, 0), (77, 0), (78, 0), (79, 0), (80, 0)]) E E140 := Fr.put F128 P140 ta0 rfl
          have po_215 : (fi E140 a0 22).toInt = (((((sumI (tx E qx a0 21) (fi E a0 21).toInt.toNat (fi E_112 a0 22).toInt.toNat).2.2 + 1) + 1) : Nat) : Int) := by have q : (fi E128 a0 22).toInt = ((((sumI (tx E qx a0 21) (fi E a0 21).toInt.toNat (fi E_112 a0 22).toInt.toNat).2.2 + 1) : Nat) : Int) := po_186; rw [(fi_at P140)]; omega
          refine lv_aload_n hx hb dX10_read_218 rfl (lv_at hl_179 0 rfl) ?_
          refine tr_getr Z.1 Z.2.2.2.1 S140.1 S140.2 ha0 ta0 rfl rfl (fun _ h => List.mem_cons_of_mem _ (List.mem_append_right _ h)) 29 (by decide) rfl (hts _ (List.mem_of_getElem? (i := 5) rfl)) dX10_read_219 (fun q143 eq143 hq143 tq143 => ?_)
          have tq143 : τ q143 = (80, 0) := tq143
          obtain ⟨v144, ev144, tv144⟩ : ∃ v : Int32, Int32.ofInt (4) = v ∧ v.toInt = 4 := ⟨_, rfl, by decide +kernel⟩
          refine lv_iconst hx hb dX10_read_222 ev144 ?_
          refine lv_iload_n hx hb dX10_read_223 rfl (lv_at hl_179 1 rfl) ?_
          refine lv_imul hx hb dX10_read_224 ?_
          refine lv_topi (fun v145 ev145 => ?_)
          have tv145 := nu_mulc' (4) ev145 (by omega) (by omega) (by omega)
          refine lv_iload hx hb dX10_read_225 (lv_at hl_179 3 rfl) ?_
          refine lv_iadd hx hb dX10_read_227 ?_
          refine lv_topi (fun v146 ev146 => ?_)
          have tv146 := nu_add ev146 (by omega) (by omega)
          refine lv_iload hx hb dX10_read_228 (lv_at hl_179 4 rfl) ?_
          obtain ⟨v147, ev147, tv147⟩ : ∃ v : Int32, (Int8.ofInt (60)).toInt32 = v ∧ v.toInt = 60 := ⟨_, rfl, by decide +kernel⟩
          refine lv_bipush hx hb dX10_read_230 ev147 ?_
          refine lv_icmp_ne (tgt := 239) hx hb dX10_read_232 (by decide) (fun c148 => ?_) (fun c148 => ?_)
          · skip
            have tc148 := nu_ne c148
            obtain ⟨v149, ev149, tv149⟩ : ∃ v : Int32, Int32.ofInt (-1) = v ∧ v.toInt = -1 := ⟨_, rfl, by decide +kernel⟩
            refine lv_iconst hx hb dX10_read_239 ev149 ?_
            exact J240 x5_179 q143 v146 v149 E140 H141 k142 l_179 S140 F140 (by omega) (by omega) (by omega) (by omega) (by omega) (by omega) hq143 tq143 (by omega) (by omega) (by omega) (by omega) (SlotW.same (SlotW.same z118 (P128.1 ql (ne_ro tql ta0 (by decide))) (P128.1 qr (ne_ro tqr ta0 (by decide))) (P128.1 qm (ne_ro tqm ta0 (by decide))) (P128.1 qd (ne_ro tqd ta0 (by decide)))) (P140.1 ql (ne_ro tql ta0 (by decide))) (P140.1 qr (ne_ro tqr ta0 (by decide))) (P140.1 qm (ne_ro tqm ta0 (by decide))) (P140.1 qd (ne_ro tqd ta0 (by decide)))) (by rw [show ai E140 qr a1.toInt.toNat = ai E_179 qr a1.toInt.toNat from ((ai_put P140 (ne_ro tqr ta0 (by decide))).trans (ai_put P128 (ne_ro tqr ta0 (by decide))))]; omega) (z120.same ((P140.1 ql (ne_ro tql ta0 (by decide))).trans (P128.1 ql (ne_ro tql ta0 (by decide)))) ((P140.1 qm (ne_ro tqm ta0 (by decide))).trans (P128.1 qm (ne_ro tqm ta0 (by decide)))) ((P140.1 qd (ne_ro tqd ta0 (by decide))).trans (P128.1 qd (ne_ro tqd ta0 (by decide))))) ⟨(by rw [((fi_put (k := 5) P140 (Or.inr (by decide))).trans (fi_put (k := 5) P128 (Or.inr (by decide))))]; exact z121.1), z121.2.1, by rw [(rel_ok (by rw [← z121.2.2.2.2]; exact z121.2.2.2.1) (by rw [← pk_190]; omega))], by rw [(rel_ok (by rw [← z121.2.2.2.2]; exact z121.2.2.2.1) (by rw [← pk_190]; omega))]; show (fi E140 a0 22).toInt = (((sumI (tx E qx a0 21) (fi E a0 21).toInt.toNat (fi E_112 a0 22).toInt.toNat).2.2 + 2 : Nat) : Int); have q := po_215; omega⟩ z122 (fun k hk => ((fi_put P140 (Or.inr (fw_ne (by decide) hk))).trans ((fi_put P128 (Or.inr (fw_ne (by decide) hk))).trans (z123 k hk)))) (by rw [(fi_at P140)]; omega) (lv_sub hl_179 [0, 1, 2, 3] rfl)
          · skip
            have tc148 := nu_eq c148
            obtain ⟨v150, ev150, tv150⟩ : ∃ v : Int32, Int32.ofInt (1) = v ∧ v.toInt = 1 := ⟨_, rfl, by decide +kernel⟩
            refine lv_iconst hx hb dX10_read_235 ev150 ?_
            refine lv_goto (tgt := 240) hx hb dX10_read_236 (by decide) ?_
            exact J240 x5_179 q143 v146 v150 E140 H141 k142 l_179 S140 F140 (by omega) (by omega) (by omega) (by omega) (by omega) (by omega) hq143 tq143 (by omega) (by omega) (by omega) (by omega) (SlotW.same (SlotW.same z118 (P128.1 ql (ne_ro tql ta0 (by decide))) (P128.1 qr (ne_ro tqr ta0 (by decide))) (P128.1 qm (ne_ro tqm ta0 (by decide))) (P128.1 qd (ne_ro tqd ta0 (by decide)))) (P140.1 ql (ne_ro tql ta0 (by decide))) (P140.1 qr (ne_ro tqr ta0 (by decide))) (P140.1 qm (ne_ro tqm ta0 (by decide))) (P140.1 qd (ne_ro tqd ta0 (by decide)))) (by rw [show ai E140 qr a1.toInt.toNat = ai E_179 qr a1.toInt.toNat from ((ai_put P140 (ne_ro tqr ta0 (by decide))).trans (ai_put P128 (ne_ro tqr ta0 (by decide))))]; omega) (z120.same ((P140.1 ql (ne_ro tql ta0 (by decide))).trans (P128.1 ql (ne_ro tql ta0 (by decide)))) ((P140.1 qm (ne_ro tqm ta0 (by decide))).trans (P128.1 qm (ne_ro tqm ta0 (by decide)))) ((P140.1 qd (ne_ro tqd ta0 (by decide))).trans (P128.1 qd (ne_ro tqd ta0 (by decide))))) ⟨(by rw [((fi_put (k := 5) P140 (Or.inr (by decide))).trans (fi_put (k := 5) P128 (Or.inr (by decide))))]; exact z121.1), z121.2.1, by rw [(rel_ok (by rw [← z121.2.2.2.2]; exact z121.2.2.2.1) (by rw [← pk_190]; omega))], by rw [(rel_ok (by rw [← z121.2.2.2.2]; exact z121.2.2.2.1) (by rw [← pk_190]; omega))]; show (fi E140 a0 22).toInt = (((sumI (tx E qx a0 21) (fi E a0 21).toInt.toNat (fi E_112 a0 22).toInt.toNat).2.2 + 2 : Nat) : Int); have q := po_215; omega⟩ z122 (fun k hk => ((fi_put P140 (Or.inr (fw_ne (by decide) hk))).trans ((fi_put P128 (Or.inr (fw_ne (by decide) hk))).trans (z123 k hk)))) (by rw [(fi_at P140)]; omega) (lv_sub hl_179 [0, 1, 2, 3] rfl)
        · skip
          have tc136 := nu_ne c136
          refine lv_aload_n hx hb dX10_read_198 rfl (lv_at hl_179 0 rfl) ?_
          obtain ⟨v151, ev151, tv151⟩ : ∃ v : Int32, Int32.ofInt (1) = v ∧ v.toInt = 1 := ⟨_, rfl, by decide +kernel⟩
          refine lv_iconst hx hb dX10_read_199 ev151 ?_
          refine lv_aload_n hx hb dX10_read_200 rfl (lv_at hl_179 0 rfl) ?_
          refine tr_geti Z.1 Z.2.2.2.1 S131.1 S131.2 ha0 ta0 rfl rfl (fun _ h => List.mem_cons_of_mem _ (List.mem_append_right _ h)) 22 (by decide) rfl (hts _ (List.mem_of_getElem? (i := 1) rfl)) dX10_read_201 (fun v152 ev152 lv152 uv152 => ?_)
          have wv152 : v152 = v127 := ev152.symm.trans (fi_at P128)
          have xv152 : v152.toInt = v127.toInt := by rw [wv152]
          have f0_204 : (fi E128 a0 5).toInt = 0 := (by rw [(fi_put (k := 5) P128 (Or.inr (by decide)))]; exact z121.1)
          refine tc_vv Z.1 Z.2.2.2.1 Z.2.2.2.2.1 Z.2.2.2.2.2 S131.1 S131.2 ha0 ta0 rfl rfl (k_X10_wrong_vr l D cy S131.2 ha0 ta0 v151 (by omega) (by omega) v152) (cwV 2 hts gX10_read_X10_wrong rfl rfl rfl (by decide +kernel) ⟨Nat.le_of_ble_eq_true rfl, Nat.le_of_ble_eq_true rfl⟩) rfl hl_179.1 rfl (Nat.le_of_ble_eq_true rfl) dX10_read_204 ⟨Nat.zero_le _, Nat.zero_le _⟩ (fun E153 H154 k155 W153 I153 G153 p153 => ?_)
          obtain ⟨p153_0, p153_1⟩ := p153
          have S153 : Now D TB cy (va_A (va_pl L E) sz) s L τ E153 H154 k155 := ⟨W153, I153⟩
          have F153 : Fr L τ (inW [(11, 0), (74, 0), (75, 0), (76, 0), (77, 0), (78, 0), (79, 0), (80, 0)]) E E153 := F128.trans (G153.mono (inW_mono (by decide)))
          have ff_204 : (fi E153 a0 5).toInt = v151.toInt ∧ (fi E153 a0 6).toInt = v152.toInt := by rcases p153_0 with q | q; omega; exact q.2
          rw [← hQ]
          exact en_v Z S153 F153 ⟨(by have b_ : (relI (tx E qx a0 21) (fi E a0 21).toInt.toNat (sumI (tx E qx a0 21) (fi E a0 21).toInt.toNat (fi E_112 a0 22).toInt.toNat).2.2).1 ≠ 0 := (by rw [(rel_bad (by rw [← z121.2.2.2.2]; exact z121.2.2.2.1) (by rw [← pk_190]; omega))]; exact ne_b (by decide)); rw [← a112s, rels_bad (by rw [comp_2 (fun w => w z121.2.1) b_]; exact b_), comp_2 (fun w => w z121.2.1) b_, (rel_bad (by rw [← z121.2.2.2.2]; exact z121.2.2.2.1) (by rw [← pk_190]; omega))]; exact (Did.bad (p := 0) (by decide) (by omega) (by omega)).f), (fun k hk => ((p153_1 k (fw_sub (by decide) hk)).trans ((fi_put P128 (Or.inr (fw_ne (by decide) hk))).trans (z123 k hk)))), (SlotOK.fin S153.2 hql tql hqr tqr hqm tqm hqd tqd (SlotW.same (SlotW.same z118 (P128.1 ql (ne_ro tql ta0 (by decide))) (P128.1 qr (ne_ro tqr ta0 (by decide))) (P128.1 qm (ne_ro tqm ta0 (by decide))) (P128.1 qd (ne_ro tqd ta0 (by decide)))) (G153 ql hql (by rw [tql]; rfl)) (G153 qr hqr (by rw [tqr]; rfl)) (G153 qm hqm (by rw [tqm]; rfl)) (G153 qd hqd (by rw [tqd]; rfl))))⟩ dX10_read_207
      refine lv_iload hx hb dX10_read_112 (lv_at hl_112 2 rfl) ?_
      refine lv_if_eq (tgt := 343) hx hb dX10_read_114 (by decide) (fun c157 => ?_) (fun c157 => ?_)
      · skip
        have tc157 := nu_eq c157
        have uc157 : (0 : Int32).toInt = 0 := rfl
        rw [← hQ]
        exact en_v Z S_112 F_112 ⟨(by rcases z7 with q | q; omega; exact q.2), (fun k hk => (z8 k hk)), (SlotOK.fin S_112.2 hql tql hqr tqr hqm tqm hqd tqd z5)⟩ dX10_read_343
      · skip
        have tc157 := nu_ne c157
        have uc157 : (0 : Int32).toInt = 0 := rfl
        refine lv_aload_n hx hb dX10_read_117 rfl (lv_at hl_112 0 rfl) ?_
        refine tc_vi Z.1 Z.2.2.2.1 Z.2.2.2.2.1 Z.2.2.2.2.2 S_112.1 S_112.2 ha0 ta0 rfl rfl (k_X10_bad l D cy S_112.2 ha0 ta0) (cwV 0 hts gX10_read_X10_bad rfl rfl rfl (by decide +kernel) ⟨Nat.le_of_ble_eq_true rfl, Nat.le_of_ble_eq_true rfl⟩) rfl hl_112.1 rfl (Nat.le_of_ble_eq_true rfl) dX10_read_118 ⟨Nat.zero_le _, Nat.zero_le _⟩ (fun v161 E158 H159 k160 W158 I158 G158 p158 => ?_)
        obtain ⟨q158, p158_0, p158_1, p158_2⟩ := p158
        have q158 := q158.symm
        subst q158
        have S158 : Now D TB cy (va_A (va_pl L E) sz) s L τ E_112 H159 k160 := ⟨W158, I158⟩
        refine lv_if_ne (tgt := 343) hx hb dX10_read_121 (by decide) (fun c162 => ?_) (fun c162 => ?_)
        · skip
          have tc162 := nu_ne c162
          have uc162 : (0 : Int32).toInt = 0 := rfl
          rw [← hQ]
          exact en_v Z S158 F_112 ⟨(by rcases z7 with q | q; omega; exact q.2), (fun k hk => (z8 k hk)), (SlotOK.fin S158.2 hql tql hqr tqr hqm tqm hqd tqd z5)⟩ dX10_read_343
        · skip
          have tc162 := nu_eq c162
          have uc162 : (0 : Int32).toInt = 0 := rfl
          have a112 : (fi E_112 a0 5).toInt = 0 ∧ (ai E_112 qr a1.toInt.toNat).toInt ≤ 3 ∧ relsF (tx E qx a0 21) (fi E a0 21).toInt.toNat (4 - (ai E_112 qr a1.toInt.toNat).toInt.toNat) (ai E_112 qr a1.toInt.toNat).toInt.toNat (fi E_112 a0 22).toInt.toNat = (readI (tx E qx a0 21) (fi E a0 21).toInt.toNat) := by rcases z7 with q | q; exact q.2; exact absurd q.1 (by omega)
          have ge_112 : 0 ≤ (ai E_112 qr a1.toInt.toNat).toInt := (ai_rng S_112.2 hqr tqr rfl (show a1.toInt.toNat < 50 by omega)).1
          have a112e : 4 - (ai E_112 qr a1.toInt.toNat).toInt.toNat = (3 - (ai E_112 qr a1.toInt.toNat).toInt.toNat) + 1 := by omega
          have a112s := a112.2.2
          rw [a112e] at a112s
          have pz112 : (fi E_112 a0 22).toInt = (((fi E_112 a0 22).toInt.toNat : Nat) : Int) := by have q := fi_rng (k := 22) S_112.2 ha0 ta0 rfl rfl; omega
          refine lv_aload_n hx hb dX10_read_124 rfl (lv_at hl_112 0 rfl) ?_
          refine tr_getr Z.1 Z.2.2.2.1 S158.1 S158.2 ha0 ta0 rfl rfl (fun _ h => List.mem_cons_of_mem _ (List.mem_append_right _ h)) 25 (by decide) rfl (hts _ (List.mem_of_getElem? (i := 3) rfl)) dX10_read_125 (fun q163 eq163 hq163 tq163 => ?_)
          have tq163 : τ q163 = (76, 0) := tq163
          have uq163 : qr = q163 := S158.2.2.2.2 _ hqr _ hq163 (tqr.trans tq163.symm) (by rw [tqr]; rfl)
          subst uq163
          refine lv_iload_n hx hb dX10_read_128 rfl (lv_at hl_112 1 rfl) ?_
          refine tr_iald Z.1 Z.2.2.2.1 S158.1 S158.2 hqr tqr rfl (by omega) (by omega) dX10_read_129 (fun v164 ev164 lv164 uv164 => ?_)
          have q129 : v164.toInt = (ai E_112 qr a1.toInt.toNat).toInt := by rw [← show ai E_112 qr a1.toInt.toNat = v164 from ev164]
          refine lv_istore (lv' := [(5, .int v164), (0, .ref a0), (1, .int a1), (4, .int x4_112)]) hx hb dX10_read_130 hl_112 (by decide) rfl (fun l165 hl166 => ?_)
          refine lv_aload_n hx hb dX10_read_132 rfl (lv_at hl166 1 rfl) ?_
          refine lv_iload_n hx hb dX10_read_133 rfl (lv_at hl166 2 rfl) ?_
          obtain ⟨v167, ev167, tv167⟩ : ∃ v : Int32, Int32.ofInt (2) = v ∧ v.toInt = 2 := ⟨_, rfl, by decide +kernel⟩
          refine lv_iconst hx hb dX10_read_134 ev167 ?_
          refine lv_iload hx hb dX10_read_135 (lv_at hl166 0 rfl) ?_
          refine lv_imul hx hb dX10_read_137 ?_
          refine lv_topi (fun v168 ev168 => ?_)
          have tv168 := nu_mulc' (2) ev168 (by omega) (by omega) (by omega)
          have fe_138a : fi E_112 a0 21 = fi E a0 21 := (z8 21 (by decide))
          have tq_138a : tx E_112 qx a0 21 = (tx E qx a0 21) := tx_same (F_112 qx hqx (by rw [tqx]; rfl)) fe_138a
          have po_138a : (fi E_112 a0 22).toInt = (((fi E_112 a0 22).toInt.toNat : Nat) : Int) := pz112
          have f0_138 : (fi E_112 a0 5).toInt = 0 := a112.1
          refine tc_vv Z.1 Z.2.2.2.1 Z.2.2.2.2.1 Z.2.2.2.2.2 S158.1 S158.2 ha0 ta0 rfl rfl (k_X10_sum_vr l D cy S158.2 ha0 ta0 a1 (by omega) (by omega) v168 (by omega) (by omega) hql tql hqm tqm hqd tqd hqx tqx f0_138) (cwV 2 hts gX10_read_X10_sum rfl rfl rfl (by decide +kernel) ⟨Nat.le_of_ble_eq_true rfl, Nat.le_of_ble_eq_true rfl⟩) rfl hl166.1 rfl (Nat.le_of_ble_eq_true rfl) dX10_read_138 ⟨Nat.zero_le _, Nat.zero_le _⟩ (fun E169 H170 k171 W169 I169 G169 p169 => ?_)
          obtain ⟨p169_0, p169_1, p169_2, p169_3, p169_4, p169_5⟩ := p169
          have S169 : Now D TB cy (va_A (va_pl L E) sz) s L τ E169 H170 k171 := ⟨W169, I169⟩
          have F169 : Fr L τ (inW [(11, 0), (74, 0), (75, 0), (76, 0), (77, 0), (78, 0), (79, 0), (80, 0)]) E E169 := F_112.trans (G169.mono (inW_mono (by decide)))
          have q169r : 2 * (ai E_112 qr a1.toInt.toNat).toInt ≤ ((v168.toInt.toNat : Nat) : Int) := by have q : ai E_112 qr a1.toInt.toNat = v164 := ev164; rw [q]; omega
          have ds_138 : Did (fi E169 a0 5).toInt (fi E169 a0 6).toInt (fi E169 a0 22).toInt (sumI (tx E qx a0 21) (fi E a0 21).toInt.toNat (fi E_112 a0 22).toInt.toNat) := by have q := p169_4; rw [tq_138a, fe_138a] at q; exact q
          have kp_138f := fi_rng (k := 5) S169.2 ha0 ta0 rfl rfl
          have kp_138p := fi_rng (k := 22) S169.2 ha0 ta0 rfl rfl
          refine lv_aload_n hx hb dX10_read_141 rfl (lv_at hl166 1 rfl) ?_
          refine tc_vi Z.1 Z.2.2.2.1 Z.2.2.2.2.1 Z.2.2.2.2.2 S169.1 S169.2 ha0 ta0 rfl rfl (k_X10_bad l D cy S169.2 ha0 ta0) (cwV 0 hts gX10_read_X10_bad rfl rfl rfl (by decide +kernel) ⟨Nat.le_of_ble_eq_true rfl, Nat.le_of_ble_eq_true rfl⟩) rfl hl166.1 rfl (Nat.le_of_ble_eq_true rfl) dX10_read_142 ⟨Nat.zero_le _, Nat.zero_le _⟩ (fun v176 E173 H174 k175 W173 I173 G173 p173 => ?_)
          obtain ⟨q173, p173_0, p173_1, p173_2⟩ := p173
          have q173 := q173.symm
          subst q173
          have S173 : Now D TB cy (va_A (va_pl L E) sz) s L τ E169 H174 k175 := ⟨W173, I173⟩
          refine lv_if_eq (tgt := 149) hx hb dX10_read_145 (by decide) (fun c177 => ?_) (fun c177 => ?_)
          · skip
            have tc177 := nu_eq c177
            have uc177 : (0 : Int32).toInt = 0 := rfl
            have ge_138 := sum_ge (B := (tx E qx a0 21)) (n := (fi E a0 21).toInt.toNat) 9 0 (fi E_112 a0 22).toInt.toNat
            have e1_138 := ds_138.1
            have f5_138 : (fi E169 a0 5).toInt = 0 := by have q : 0 ≤ (sumI (tx E qx a0 21) (fi E a0 21).toInt.toNat (fi E_112 a0 22).toInt.toNat).1 := ge_138; omega
            have r0_138 : (sumI (tx E qx a0 21) (fi E a0 21).toInt.toNat (fi E_112 a0 22).toInt.toNat).1 = 0 := ds_138.1.symm.trans f5_138
            have pr_138 : (fi E169 a0 22).toInt = (((sumI (tx E qx a0 21) (fi E a0 21).toInt.toNat (fi E_112 a0 22).toInt.toNat).2.2 : Nat) : Int) := ds_138.2.2 r0_138
            refine lv_aload_n hx hb dX10_read_149 rfl (lv_at hl166 1 rfl) ?_
            have q169p : PartOK E169 ql qm qd a1.toInt.toNat (2 * v164.toInt.toNat) := by have q := p169_3 (by omega); rw [show v168.toInt.toNat = 2 * v164.toInt.toNat from by omega] at q; exact q
            have fe_150a : fi E169 a0 21 = fi E a0 21 := ((p169_5 21 (by decide)).trans (z8 21 (by decide)))
            have tq_150a : tx E169 qx a0 21 = (tx E qx a0 21) := tx_same (F169 qx hqx (by rw [tqx]; rfl)) fe_150a
            have po_150a : (fi E169 a0 22).toInt = (((sumI (tx E qx a0 21) (fi E a0 21).toInt.toNat (fi E_112 a0 22).toInt.toNat).2.2 : Nat) : Int) := pr_138
            refine tc_vi Z.1 Z.2.2.2.1 Z.2.2.2.2.1 Z.2.2.2.2.2 S173.1 S173.2 ha0 ta0 rfl rfl (k_X10_look_vr l D cy S173.2 ha0 ta0 hqx tqx) (cwV 0 hts gX10_read_X10_look rfl rfl rfl (by decide +kernel) ⟨Nat.le_of_ble_eq_true rfl, Nat.le_of_ble_eq_true rfl⟩) rfl hl166.1 rfl (Nat.le_of_ble_eq_true rfl) dX10_read_150 ⟨Nat.zero_le _, Nat.zero_le _⟩ (fun v181 E178 H179 k180 W178 I178 G178 p178 => ?_)
            obtain ⟨q178, p178_0, p178_1, p178_2, p178_3⟩ := p178
            have q178 := q178.symm
            subst q178
            have S178 : Now D TB cy (va_A (va_pl L E) sz) s L τ E169 H179 k180 := ⟨W178, I178⟩
            have pk_150 : v181.toInt = pkI (tx E qx a0 21) (fi E a0 21).toInt.toNat (sumI (tx E qx a0 21) (fi E a0 21).toInt.toNat (fi E_112 a0 22).toInt.toNat).2.2 := by have q := p178_1; rw [tq_150a, fe_150a, show (fi E169 a0 22).toInt.toNat = (sumI (tx E qx a0 21) (fi E a0 21).toInt.toNat (fi E_112 a0 22).toInt.toNat).2.2 from by omega] at q; exact q
            refine lv_istore (lv' := [(6, .int v181), (5, .int v164), (0, .ref a0), (1, .int a1), (4, .int x4_112)]) hx hb dX10_read_153 hl166 (by decide) rfl (fun l182 hl183 => ?_)
            refine lv_iload hx hb dX10_read_155 (lv_at hl183 0 rfl) ?_
            obtain ⟨v184, ev184, tv184⟩ : ∃ v : Int32, (Int8.ofInt (60)).toInt32 = v ∧ v.toInt = 60 := ⟨_, rfl, by decide +kernel⟩
            refine lv_bipush hx hb dX10_read_157 ev184 ?_
            refine lv_icmp_eq (tgt := 179) hx hb dX10_read_159 (by decide) (fun c185 => ?_) (fun c185 => ?_)
            · skip
              have tc185 := nu_eq c185
              exact J179 v164 v181 E169 H179 k180 l182 S178 F169 (by omega) (by omega) (by omega) (by omega) (by omega) (by omega) (by omega) (by omega) (sl_sum S158.2 hqr tqr hqm tqm z5 p169_0 (G169 qr hqr (by rw [tqr]; rfl)) p169_1 p169_2 (by omega) (by have := q169r; omega)) (by have q : ai E_112 qr a1.toInt.toNat = v164 := ev164; rw [show ai E169 qr a1.toInt.toNat = ai E_112 qr a1.toInt.toNat from (ai_fr G169 hqr (by rw [tqr]; rfl)), q]; omega) q169p ⟨f5_138, r0_138, pr_138, by omega, pk_150⟩ ⟨ge_112, a112.2.1, a112s⟩ (fun k hk => ((p169_5 k (fw_sub (by decide) hk)).trans (z8 k hk))) (by omega) (lv_sub hl183 [2, 3, 4, 1, 0] rfl)
            · skip
              have tc185 := nu_ne c185
              refine lv_iload hx hb dX10_read_162 (lv_at hl183 0 rfl) ?_
              obtain ⟨v186, ev186, tv186⟩ : ∃ v : Int32, (Int8.ofInt (62)).toInt32 = v ∧ v.toInt = 62 := ⟨_, rfl, by decide +kernel⟩
              refine lv_bipush hx hb dX10_read_164 ev186 ?_
              refine lv_icmp_eq (tgt := 179) hx hb dX10_read_166 (by decide) (fun c187 => ?_) (fun c187 => ?_)
              · skip
                have tc187 := nu_eq c187
                exact J179 v164 v181 E169 H179 k180 l182 S178 F169 (by omega) (by omega) (by omega) (by omega) (by omega) (by omega) (by omega) (by omega) (sl_sum S158.2 hqr tqr hqm tqm z5 p169_0 (G169 qr hqr (by rw [tqr]; rfl)) p169_1 p169_2 (by omega) (by have := q169r; omega)) (by have q : ai E_112 qr a1.toInt.toNat = v164 := ev164; rw [show ai E169 qr a1.toInt.toNat = ai E_112 qr a1.toInt.toNat from (ai_fr G169 hqr (by rw [tqr]; rfl)), q]; omega) q169p ⟨f5_138, r0_138, pr_138, by omega, pk_150⟩ ⟨ge_112, a112.2.1, a112s⟩ (fun k hk => ((p169_5 k (fw_sub (by decide) hk)).trans (z8 k hk))) (by omega) (lv_sub hl183 [2, 3, 4, 1, 0] rfl)
              · skip
                have tc187 := nu_ne c187
                refine lv_aload_n hx hb dX10_read_169 rfl (lv_at hl183 2 rfl) ?_
                obtain ⟨v188, ev188, tv188⟩ : ∃ v : Int32, Int32.ofInt (1) = v ∧ v.toInt = 1 := ⟨_, rfl, by decide +kernel⟩
                refine lv_iconst hx hb dX10_read_170 ev188 ?_
                refine lv_aload_n hx hb dX10_read_171 rfl (lv_at hl183 2 rfl) ?_
                refine tr_geti Z.1 Z.2.2.2.1 S178.1 S178.2 ha0 ta0 rfl rfl (fun _ h => List.mem_cons_of_mem _ (List.mem_append_right _ h)) 22 (by decide) rfl (hts _ (List.mem_of_getElem? (i := 1) rfl)) dX10_read_172 (fun v189 ev189 lv189 uv189 => ?_)
                have wv189 : v189 = (fi E169 a0 22) := ev189.symm.trans rfl
                have xv189 : v189.toInt = (fi E169 a0 22).toInt := by rw [wv189]
                have f0_175 : (fi E169 a0 5).toInt = 0 := f5_138
                refine tc_vv Z.1 Z.2.2.2.1 Z.2.2.2.2.1 Z.2.2.2.2.2 S178.1 S178.2 ha0 ta0 rfl rfl (k_X10_wrong_vr l D cy S178.2 ha0 ta0 v188 (by omega) (by omega) v189) (cwV 2 hts gX10_read_X10_wrong rfl rfl rfl (by decide +kernel) ⟨Nat.le_of_ble_eq_true rfl, Nat.le_of_ble_eq_true rfl⟩) rfl hl183.1 rfl (Nat.le_of_ble_eq_true rfl) dX10_read_175 ⟨Nat.zero_le _, Nat.zero_le _⟩ (fun E190 H191 k192 W190 I190 G190 p190 => ?_)
                obtain ⟨p190_0, p190_1⟩ := p190
                have S190 : Now D TB cy (va_A (va_pl L E) sz) s L τ E190 H191 k192 := ⟨W190, I190⟩
                have F190 : Fr L τ (inW [(11, 0), (74, 0), (75, 0), (76, 0), (77, 0), (78, 0), (79, 0), (80, 0)]) E E190 := F169.trans (G190.mono (inW_mono (by decide)))
                have ff_175 : (fi E190 a0 5).toInt = v188.toInt ∧ (fi E190 a0 6).toInt = v189.toInt := by rcases p190_0 with q | q; omega; exact q.2
                rw [← hQ]
                exact en_v Z S190 F190 ⟨(by have b_ : (relI (tx E qx a0 21) (fi E a0 21).toInt.toNat (sumI (tx E qx a0 21) (fi E a0 21).toInt.toNat (fi E_112 a0 22).toInt.toNat).2.2).1 ≠ 0 := (by rw [(rel_no (by rw [← pk_150]; omega))]; exact ne_b (by decide)); rw [← a112s, rels_bad (by rw [comp_2 (fun w => w r0_138) b_]; exact b_), comp_2 (fun w => w r0_138) b_, (rel_no (by rw [← pk_150]; omega))]; exact (Did.bad (p := 0) (by decide) (by omega) (by omega)).f), (fun k hk => ((p190_1 k (fw_sub (by decide) hk)).trans ((p169_5 k (fw_sub (by decide) hk)).trans (z8 k hk)))), (SlotOK.fin S190.2 hql tql hqr tqr hqm tqm hqd tqd (SlotW.same (sl_sum S158.2 hqr tqr hqm tqm z5 p169_0 (G169 qr hqr (by rw [tqr]; rfl)) p169_1 p169_2 (by omega) (by have := q169r; omega)) (G190 ql hql (by rw [tql]; rfl)) (G190 qr hqr (by rw [tqr]; rfl)) (G190 qm hqm (by rw [tqm]; rfl)) (G190 qd hqd (by rw [tqd]; rfl))))⟩ dX10_read_178
          · skip
            have tc177 := nu_ne c177
            have uc177 : (0 : Int32).toInt = 0 := rfl
            rw [← hQ]
            exact en_v Z S173 F169 ⟨(by have b_ : (sumI (tx E qx a0 21) (fi E a0 21).toInt.toNat (fi E_112 a0 22).toInt.toNat).1 ≠ 0 := fun w => absurd (ds_138.1.trans w) (by omega); rw [← a112s, rels_bad (by rw [comp_1 b_]; exact b_), comp_1 b_]; exact ds_138.f), (fun k hk => ((p169_5 k (fw_sub (by decide) hk)).trans (z8 k hk))), (SlotOK.fin S173.2 hql tql hqr tqr hqm tqm hqd tqd (sl_sum S158.2 hqr tqr hqm tqm z5 p169_0 (G169 qr hqr (by rw [tqr]; rfl)) p169_1 p169_2 (by omega) (by have := q169r; omega)))⟩ dX10_read_148
  have J104 : ∀ (y0_104 : Nat) (y1_104 : Int32) (y2_104 : Int32) (E_104 : Ec) (H_104 : Heap) (k_104 : List Loc) (l_104 : Array Slot), Now D TB cy (va_A (va_pl L E) sz) s L τ E_104 H_104 k_104 → Fr L τ (inW [(11, 0), (74, 0), (75, 0), (76, 0), (77, 0), (78, 0), (79, 0), (80, 0)]) E E_104 → (0 ≤ a1.toInt) → (a1.toInt ≤ 49) → (y0_104 ∈ L) → (τ y0_104 = (74, 0)) → (0 ≤ y1_104.toInt) → (y1_104.toInt ≤ 49) → (0 ≤ y2_104.toInt) → (y2_104.toInt ≤ 1) → (SlotW E_104 ql qr qm qd) → ((ai E_104 qr a1.toInt.toNat).toInt = 0) → ((fi E_104 a0 5).toInt = 0 ∧ (fi E_104 a0 22).toInt = (((skI (tx E qx a0 21) (fi E a0 21).toInt.toNat 0) : Nat) : Int) ∧ (wdI (tx E qx a0 21) (fi E a0 21).toInt.toNat (skI (tx E qx a0 21) (fi E a0 21).toInt.toNat 0) = wV 8 ∨ wdI (tx E qx a0 21) (fi E a0 21).toInt.toNat (skI (tx E qx a0 21) (fi E a0 21).toInt.toNat 0) = wV 9)) → (∀ k : Nat, k ∉ ([5, 6, 22] : List Nat) → fi E_104 a0 k = fi E a0 k) → lv_has l_104 7 [(0, .ref a0), (1, .int a1)] → W p l e { frames := 4, cells := 0, slots := 0, locals := 101 } s m args below meth c H_104 k_104 0 0 QQ (F0 m 104 l_104 [.int y2_104, .int y1_104, .ref y0_104]) := by
    intro y0_104 y1_104 y2_104 E_104 H_104 k_104 l_104 S_104 F_104 z194 z195 z196 z197 z198 z199 z200 z201 z202 z203 z204 z205 hl_104
    refine tr_zast Z.1 Z.2.2.2.1 S_104.1 S_104.2 z196 z197 rfl (by omega) (by omega) (by omega) (by omega) dX10_read_104 (fun E206 H207 k208 W206 I206 P206 => ?_)
    have S206 : Now D TB cy (va_A (va_pl L E) sz) s L τ E206 H207 k208 := ⟨W206, I206⟩
    have F206 : Fr L τ (inW [(11, 0), (74, 0), (75, 0), (76, 0), (77, 0), (78, 0), (79, 0), (80, 0)]) E E206 := Fr.set F_104 P206 z197 rfl
    refine lv_aload_n hx hb dX10_read_105 rfl (lv_at hl_104 0 rfl) ?_
    have fe_106a : fi E206 a0 21 = fi E a0 21 := ((fi_set (k := 21) P206 (ne_ro ta0 z197 (by decide))).trans (z205 21 (by decide)))
    have tq_106a : tx E206 qx a0 21 = (tx E qx a0 21) := tx_same (F206 qx hqx (by rw [tqx]; rfl)) fe_106a
    have po_106a : (fi E206 a0 22).toInt = (((skI (tx E qx a0 21) (fi E a0 21).toInt.toNat 0) : Nat) : Int) := by rw [(fi_set (k := 22) P206 (ne_ro ta0 z197 (by decide)))]; exact z204.2.1
    refine tc_vv Z.1 Z.2.2.2.1 Z.2.2.2.2.1 Z.2.2.2.2.2 S206.1 S206.2 ha0 ta0 rfl rfl (k_X10_passWord_vr l D cy S206.2 ha0 ta0 hqx tqx) (cwV 0 hts gX10_read_X10_passWord rfl rfl rfl (by decide +kernel) ⟨Nat.le_of_ble_eq_true rfl, Nat.le_of_ble_eq_true rfl⟩) rfl hl_104.1 rfl (Nat.le_of_ble_eq_true rfl) dX10_read_106 ⟨Nat.zero_le _, Nat.zero_le _⟩ (fun E209 H210 k211 W209 I209 G209 p209 => ?_)
    obtain ⟨p209_0, p209_1⟩ := p209
    have S209 : Now D TB cy (va_A (va_pl L E) sz) s L τ E209 H210 k211 := ⟨W209, I209⟩
    have F209 : Fr L τ (inW [(11, 0), (74, 0), (75, 0), (76, 0), (77, 0), (78, 0), (79, 0), (80, 0)]) E E209 := F206.trans (G209.mono (inW_mono (by decide)))
    have po_106 : (fi E209 a0 22).toInt = (((ltI (tx E qx a0 21) (fi E a0 21).toInt.toNat (skI (tx E qx a0 21) (fi E a0 21).toInt.toNat 0)) : Nat) : Int) := by have q := p209_0; rw [tq_106a, fe_106a, show (fi E206 a0 22).toInt.toNat = (skI (tx E qx a0 21) (fi E a0 21).toInt.toNat 0) from by omega] at q; exact q
    have kp_106 := fi_rng (k := 22) S209.2 ha0 ta0 rfl rfl
    obtain ⟨v213, ev213, tv213⟩ : ∃ v : Int32, Int32.ofInt (1) = v ∧ v.toInt = 1 := ⟨_, rfl, by decide +kernel⟩
    refine lv_iconst hx hb dX10_read_109 ev213 ?_
    refine lv_istore (lv' := [(4, .int v213), (0, .ref a0), (1, .int a1)]) hx hb dX10_read_110 hl_104 (by decide) rfl (fun l214 hl215 => ?_)
    exact J112 _ v213 E209 H210 k211 l214 S209 F209 (by omega) (by omega) (by omega) (by omega) (SlotW.same (SlotW.same z202 (P206.1 ql (ne_ro tql z197 (by decide))) (P206.1 qr (ne_ro tqr z197 (by decide))) (P206.1 qm (ne_ro tqm z197 (by decide))) (P206.1 qd (ne_ro tqd z197 (by decide)))) (G209 ql hql (by rw [tql]; rfl)) (G209 qr hqr (by rw [tqr]; rfl)) (G209 qm hqm (by rw [tqm]; rfl)) (G209 qd hqd (by rw [tqd]; rfl))) (fun _ => (by rw [show ai E209 qr a1.toInt.toNat = ai E_104 qr a1.toInt.toNat from ((ai_fr G209 hqr (by rw [tqr]; rfl)).trans (ai_set P206 (ne_ro tqr z197 (by decide))))]; omega)) (Or.inl ⟨by omega, (by rw [((p209_1 5 (by decide)).trans (fi_set (k := 5) P206 (ne_ro ta0 z197 (by decide))))]; exact z204.1), (by have q := (show (ai E209 qr a1.toInt.toNat).toInt = 0 from (by rw [show ai E209 qr a1.toInt.toNat = ai E_104 qr a1.toInt.toNat from ((ai_fr G209 hqr (by rw [tqr]; rfl)).trans (ai_set P206 (ne_ro tqr z197 (by decide))))]; omega)); omega), by rw [show 4 - (ai E209 qr a1.toInt.toNat).toInt.toNat = 4 from by have q := (show (ai E209 qr a1.toInt.toNat).toInt = 0 from (by rw [show ai E209 qr a1.toInt.toNat = ai E_104 qr a1.toInt.toNat from ((ai_fr G209 hqr (by rw [tqr]; rfl)).trans (ai_set P206 (ne_ro tqr z197 (by decide))))]; omega)); omega, show (ai E209 qr a1.toInt.toNat).toInt.toNat = 0 from by have q := (show (ai E209 qr a1.toInt.toNat).toInt = 0 from (by rw [show ai E209 qr a1.toInt.toNat = ai E_104 qr a1.toInt.toNat from ((ai_fr G209 hqr (by rw [tqr]; rfl)).trans (ai_set P206 (ne_ro tqr z197 (by decide))))]; omega)); omega, read_go (fun w => absurd (by rw [quant_ok z204.2.2]) w), quant_ok z204.2.2, show (fi E209 a0 22).toInt.toNat = ltI (tx E qx a0 21) (fi E a0 21).toInt.toNat (skI (tx E qx a0 21) (fi E a0 21).toInt.toNat 0) from by have q := po_106; omega]⟩) (fun k hk => ((p209_1 k (fw_sub (by decide) hk)).trans ((fi_set P206 (ne_ro ta0 z197 (by decide))).trans (z205 k hk)))) (fi_rng S209.2 ha0 ta0 rfl rfl) (by omega) (Nat.lt_succ_self _) (lv_sub hl215 [1, 2, 0] rfl)
  have J75 : ∀ (x2_75 : Int64) (E_75 : Ec) (H_75 : Heap) (k_75 : List Loc) (l_75 : Array Slot), Now D TB cy (va_A (va_pl L E) sz) s L τ E_75 H_75 k_75 → Fr L τ (inW [(11, 0), (74, 0), (75, 0), (76, 0), (77, 0), (78, 0), (79, 0), (80, 0)]) E E_75 → (0 ≤ a1.toInt) → (a1.toInt ≤ 49) → (SlotW E_75 ql qr qm qd) → ((ai E_75 qr a1.toInt.toNat).toInt = 0) → ((fi E_75 a0 5).toInt = 0 ∧ (fi E_75 a0 22).toInt = (((skI (tx E qx a0 21) (fi E a0 21).toInt.toNat 0) : Nat) : Int) ∧ (wdI (tx E qx a0 21) (fi E a0 21).toInt.toNat (skI (tx E qx a0 21) (fi E a0 21).toInt.toNat 0) = wV 8 ∨ wdI (tx E qx a0 21) (fi E a0 21).toInt.toNat (skI (tx E qx a0 21) (fi E a0 21).toInt.toNat 0) = wV 9)) → (∀ k : Nat, k ∉ ([5, 6, 22] : List Nat) → fi E_75 a0 k = fi E a0 k) → lv_has l_75 7 [(0, .ref a0), (1, .int a1), (2, .long x2_75)] → W p l e { frames := 4, cells := 0, slots := 0, locals := 101 } s m args below meth c H_75 k_75 0 0 QQ (F0 m 75 l_75 []) := by
    intro x2_75 E_75 H_75 k_75 l_75 S_75 F_75 z216 z217 z218 z219 z220 z221 hl_75
    refine lv_aload_n hx hb dX10_read_75 rfl (lv_at hl_75 0 rfl) ?_
    refine tr_getr Z.1 Z.2.2.2.1 S_75.1 S_75.2 ha0 ta0 rfl rfl (fun _ h => List.mem_cons_of_mem _ (List.mem_append_right _ h)) 23 (by decide) rfl (hts _ (List.mem_of_getElem? (i := 4) rfl)) dX10_read_76 (fun q222 eq222 hq222 tq222 => ?_)
    have tq222 : τ q222 = (74, 0) := tq222
    refine lv_iload_n hx hb dX10_read_79 rfl (lv_at hl_75 1 rfl) ?_
    refine lv_lload_n hx hb dX10_read_80 rfl (lv_at hl_75 2 rfl) ?_
    refine lv_aload_n hx hb dX10_read_81 rfl (lv_at hl_75 0 rfl) ?_
    obtain ⟨v223, ev223, tv223⟩ : ∃ v : Int32, (Int8.ofInt (115)).toInt32 = v ∧ v.toInt = 115 := ⟨_, rfl, by decide +kernel⟩
    refine lv_bipush hx hb dX10_read_82 ev223 ?_
    obtain ⟨v224, ev224, tv224⟩ : ∃ v : Int32, (Int8.ofInt (111)).toInt32 = v ∧ v.toInt = 111 := ⟨_, rfl, by decide +kernel⟩
    refine lv_bipush hx hb dX10_read_84 ev224 ?_
    obtain ⟨v225, ev225, tv225⟩ : ∃ v : Int32, (Int8.ofInt (109)).toInt32 = v ∧ v.toInt = 109 := ⟨_, rfl, by decide +kernel⟩
    refine lv_bipush hx hb dX10_read_86 ev225 ?_
    obtain ⟨v226, ev226, tv226⟩ : ∃ v : Int32, (Int8.ofInt (101)).toInt32 = v ∧ v.toInt = 101 := ⟨_, rfl, by decide +kernel⟩
    refine lv_bipush hx hb dX10_read_88 ev226 ?_
    obtain ⟨v227, ev227, tv227⟩ : ∃ v : Int32, Int32.ofInt (0) = v ∧ v.toInt = 0 := ⟨_, rfl, by decide +kernel⟩
    refine lv_iconst hx hb dX10_read_90 ev227 ?_
    obtain ⟨v228, ev228, tv228⟩ : ∃ v : Int32, Int32.ofInt (0) = v ∧ v.toInt = 0 := ⟨_, rfl, by decide +kernel⟩
    refine lv_iconst hx hb dX10_read_91 ev228 ?_
    refine tc_vl Z.1 Z.2.2.2.1 Z.2.2.2.2.1 Z.2.2.2.2.2 S_75.1 S_75.2 ha0 ta0 rfl rfl (k_X10_packed_vr l D cy S_75.2 ha0 ta0 v223 (by omega) (by omega) v224 (by omega) (by omega) v225 (by omega) (by omega) v226 (by omega) (by omega) v227 (by omega) (by omega) v228 (by omega) (by omega) (by omega) (by omega) (by omega) (by omega) (by omega) (by omega)) (cwV 6 hts gX10_read_X10_packed rfl rfl rfl (by decide +kernel) ⟨Nat.le_of_ble_eq_true rfl, Nat.le_of_ble_eq_true rfl⟩) rfl hl_75.1 rfl (Nat.le_of_ble_eq_true rfl) dX10_read_92 ⟨Nat.zero_le _, Nat.zero_le _⟩ (fun v232 E229 H230 k231 W229 I229 G229 p229 => ?_)
    obtain ⟨q229, p229_0⟩ := p229
    have q229 := q229.symm
    subst q229
    have S229 : Now D TB cy (va_A (va_pl L E) sz) s L τ E_75 H230 k231 := ⟨W229, I229⟩
    have n92 : v232.toInt = wV 8 := by have q := p229_0; rw [tv223, tv224, tv225, tv226, tv227, tv228] at q; exact q.trans (by decide +kernel)
    refine W.lcmp hx hb dX10_read_95 ?_
    refine lv_topi (fun v233 ev233 => ?_)
    have tv233 := nl_cmp ev233
    refine lv_if_ne (tgt := 103) hx hb dX10_read_96 (by decide) (fun c234 => ?_) (fun c234 => ?_)
    · skip
      have tc234 := nu_ne c234
      have uc234 : (0 : Int32).toInt = 0 := rfl
      obtain ⟨v235, ev235, tv235⟩ : ∃ v : Int32, Int32.ofInt (0) = v ∧ v.toInt = 0 := ⟨_, rfl, by decide +kernel⟩
      refine lv_iconst hx hb dX10_read_103 ev235 ?_
      exact J104 q222 a1 v235 E_75 H230 k231 l_75 S229 F_75 (by omega) (by omega) hq222 tq222 (by omega) (by omega) (by omega) (by omega) z218 z219 z220 (fun k hk => (z221 k hk)) (lv_sub hl_75 [0, 1] rfl)
    · skip
      have tc234 := nu_eq c234
      have uc234 : (0 : Int32).toInt = 0 := rfl
      obtain ⟨v236, ev236, tv236⟩ : ∃ v : Int32, Int32.ofInt (1) = v ∧ v.toInt = 1 := ⟨_, rfl, by decide +kernel⟩
      refine lv_iconst hx hb dX10_read_99 ev236 ?_
      refine lv_goto (tgt := 104) hx hb dX10_read_100 (by decide) ?_
      exact J104 q222 a1 v236 E_75 H230 k231 l_75 S229 F_75 (by omega) (by omega) hq222 tq222 (by omega) (by omega) (by omega) (by omega) z218 z219 z220 (fun k hk => (z221 k hk)) (lv_sub hl_75 [0, 1] rfl)
  refine lv_aload_n hx hb dX10_read_0 rfl (lv_at hl 0 rfl) ?_
  obtain ⟨v237, ev237, tv237⟩ : ∃ v : Int32, Int32.ofInt (0) = v ∧ v.toInt = 0 := ⟨_, rfl, by decide +kernel⟩
  refine lv_iconst hx hb dX10_read_1 ev237 ?_
  refine tr_puti Z.1 Z.2.2.2.1 S0.1 S0.2 ha0 ta0 rfl rfl (fun _ h => List.mem_cons_of_mem _ (List.mem_append_right _ h)) tyX10_ok nmX10 22 (by decide) rfl rfl rfl (hts _ (List.mem_of_getElem? (i := 1) rfl)) dX10_read_2 (by omega) (by omega) (fun E238 H239 k240 W238 I238 P238 => ?_)
  have S238 : Now D TB cy (va_A (va_pl L E) sz) s L τ E238 H239 k240 := ⟨W238, I238⟩
  have F238 : Fr L τ (inW [(11, 0), (74, 0), (75, 0), (76, 0), (77, 0), (78, 0), (79, 0), (80, 0)]) E E238 := Fr.put F0_ P238 ta0 rfl
  have po_2 : (fi E238 a0 22).toInt = ((0 : Nat) : Int) := by rw [(fi_at P238)]; omega
  refine lv_aload_n hx hb dX10_read_5 rfl (lv_at hl 0 rfl) ?_
  refine tr_getr Z.1 Z.2.2.2.1 S238.1 S238.2 ha0 ta0 rfl rfl (fun _ h => List.mem_cons_of_mem _ (List.mem_append_right _ h)) 24 (by decide) rfl (hts _ (List.mem_of_getElem? (i := 2) rfl)) dX10_read_6 (fun q241 eq241 hq241 tq241 => ?_)
  have tq241 : τ q241 = (75, 0) := tq241
  have uq241 : ql = q241 := S238.2.2.2.2 _ hql _ hq241 (tql.trans tq241.symm) (by rw [tql]; rfl)
  subst uq241
  refine lv_iload_n hx hb dX10_read_9 rfl (lv_at hl 1 rfl) ?_
  obtain ⟨v242, ev242, tv242⟩ : ∃ v : Int32, Int32.ofInt (0) = v ∧ v.toInt = 0 := ⟨_, rfl, by decide +kernel⟩
  refine lv_iconst hx hb dX10_read_10 ev242 ?_
  refine tr_zast Z.1 Z.2.2.2.1 S238.1 S238.2 hql tql rfl (by omega) (by omega) (by omega) (by omega) dX10_read_11 (fun E243 H244 k245 W243 I243 P243 => ?_)
  have S243 : Now D TB cy (va_A (va_pl L E) sz) s L τ E243 H244 k245 := ⟨W243, I243⟩
  have F243 : Fr L τ (inW [(11, 0), (74, 0), (75, 0), (76, 0), (77, 0), (78, 0), (79, 0), (80, 0)]) E E243 := Fr.set F238 P243 tql rfl
  refine lv_aload_n hx hb dX10_read_12 rfl (lv_at hl 0 rfl) ?_
  refine tr_getr Z.1 Z.2.2.2.1 S243.1 S243.2 ha0 ta0 rfl rfl (fun _ h => List.mem_cons_of_mem _ (List.mem_append_right _ h)) 25 (by decide) rfl (hts _ (List.mem_of_getElem? (i := 3) rfl)) dX10_read_13 (fun q246 eq246 hq246 tq246 => ?_)
  have tq246 : τ q246 = (76, 0) := tq246
  have uq246 : qr = q246 := S243.2.2.2.2 _ hqr _ hq246 (tqr.trans tq246.symm) (by rw [tqr]; rfl)
  subst uq246
  refine lv_iload_n hx hb dX10_read_16 rfl (lv_at hl 1 rfl) ?_
  obtain ⟨v247, ev247, tv247⟩ : ∃ v : Int32, Int32.ofInt (0) = v ∧ v.toInt = 0 := ⟨_, rfl, by decide +kernel⟩
  refine lv_iconst hx hb dX10_read_17 ev247 ?_
  refine tr_iast Z.1 Z.2.2.2.1 S243.1 S243.2 hqr tqr rfl (by omega) (by omega) (by omega) (by omega) dX10_read_18 (fun E248 H249 k250 W248 I248 P248 => ?_)
  have S248 : Now D TB cy (va_A (va_pl L E) sz) s L τ E248 H249 k250 := ⟨W248, I248⟩
  have F248 : Fr L τ (inW [(11, 0), (74, 0), (75, 0), (76, 0), (77, 0), (78, 0), (79, 0), (80, 0)]) E E248 := Fr.set F243 P248 tqr rfl
  refine lv_aload_n hx hb dX10_read_19 rfl (lv_at hl 0 rfl) ?_
  have fe_20a : fi E248 a0 21 = fi E a0 21 := ((fi_set (k := 21) P248 (ne_ro ta0 tqr (by decide))).trans ((fi_set (k := 21) P243 (ne_ro ta0 tql (by decide))).trans (fi_put (k := 21) P238 (Or.inr (by decide)))))
  have tq_20a : tx E248 qx a0 21 = (tx E qx a0 21) := tx_same (F248 qx hqx (by rw [tqx]; rfl)) fe_20a
  have po_20a : (fi E248 a0 22).toInt = ((0 : Nat) : Int) := by rw [((fi_set (k := 22) P248 (ne_ro ta0 tqr (by decide))).trans (fi_set (k := 22) P243 (ne_ro ta0 tql (by decide))))]; exact po_2
  refine tc_vv Z.1 Z.2.2.2.1 Z.2.2.2.2.1 Z.2.2.2.2.2 S248.1 S248.2 ha0 ta0 rfl rfl (k_X10_blanks_vr l D cy S248.2 ha0 ta0 hqx tqx) (cwV 0 hts gX10_read_X10_blanks rfl rfl rfl (by decide +kernel) ⟨Nat.le_of_ble_eq_true rfl, Nat.le_of_ble_eq_true rfl⟩) rfl hl.1 rfl (Nat.le_of_ble_eq_true rfl) dX10_read_20 ⟨Nat.zero_le _, Nat.zero_le _⟩ (fun E251 H252 k253 W251 I251 G251 p251 => ?_)
  obtain ⟨p251_0, p251_1⟩ := p251
  have S251 : Now D TB cy (va_A (va_pl L E) sz) s L τ E251 H252 k253 := ⟨W251, I251⟩
  have F251 : Fr L τ (inW [(11, 0), (74, 0), (75, 0), (76, 0), (77, 0), (78, 0), (79, 0), (80, 0)]) E E251 := F248.trans (G251.mono (inW_mono (by decide)))
  have po_20 : (fi E251 a0 22).toInt = (((skI (tx E qx a0 21) (fi E a0 21).toInt.toNat 0) : Nat) : Int) := by have q := p251_0; rw [tq_20a, fe_20a, show (fi E248 a0 22).toInt.toNat = 0 from by omega] at q; exact q
  have kp_20 := fi_rng (k := 22) S251.2 ha0 ta0 rfl rfl
  refine lv_aload_n hx hb dX10_read_23 rfl (lv_at hl 0 rfl) ?_
  have fe_24a : fi E251 a0 21 = fi E a0 21 := ((p251_1 21 (by decide)).trans ((fi_set (k := 21) P248 (ne_ro ta0 tqr (by decide))).trans ((fi_set (k := 21) P243 (ne_ro ta0 tql (by decide))).trans (fi_put (k := 21) P238 (Or.inr (by decide))))))
  have tq_24a : tx E251 qx a0 21 = (tx E qx a0 21) := tx_same (F251 qx hqx (by rw [tqx]; rfl)) fe_24a
  have po_24a : (fi E251 a0 22).toInt = (((skI (tx E qx a0 21) (fi E a0 21).toInt.toNat 0) : Nat) : Int) := po_20
  refine tc_vl Z.1 Z.2.2.2.1 Z.2.2.2.2.1 Z.2.2.2.2.2 S251.1 S251.2 ha0 ta0 rfl rfl (k_X10_wordAt_vr l D cy S251.2 ha0 ta0 hqx tqx) (cwV 0 hts gX10_read_X10_wordAt rfl rfl rfl (by decide +kernel) ⟨Nat.le_of_ble_eq_true rfl, Nat.le_of_ble_eq_true rfl⟩) rfl hl.1 rfl (Nat.le_of_ble_eq_true rfl) dX10_read_24 ⟨Nat.zero_le _, Nat.zero_le _⟩ (fun v258 E255 H256 k257 W255 I255 G255 p255 => ?_)
  obtain ⟨q255, p255_0⟩ := p255
  have q255 := q255.symm
  subst q255
  have S255 : Now D TB cy (va_A (va_pl L E) sz) s L τ E251 H256 k257 := ⟨W255, I255⟩
  have wd_24 : v258.toInt = wdI (tx E qx a0 21) (fi E a0 21).toInt.toNat (skI (tx E qx a0 21) (fi E a0 21).toInt.toNat 0) := by have q := p255_0; rw [tq_24a, fe_24a, show (fi E251 a0 22).toInt.toNat = (skI (tx E qx a0 21) (fi E a0 21).toInt.toNat 0) from by omega] at q; exact q
  refine lv_lstore_n (lv' := [(2, .long v258), (0, .ref a0), (1, .int a1)]) hx hb dX10_read_27 rfl hl (by decide) rfl (fun l259 hl260 => ?_)
  refine lv_lload_n hx hb dX10_read_28 rfl (lv_at hl260 0 rfl) ?_
  refine lv_aload_n hx hb dX10_read_29 rfl (lv_at hl260 1 rfl) ?_
  obtain ⟨v261, ev261, tv261⟩ : ∃ v : Int32, (Int8.ofInt (97)).toInt32 = v ∧ v.toInt = 97 := ⟨_, rfl, by decide +kernel⟩
  refine lv_bipush hx hb dX10_read_30 ev261 ?_
  obtain ⟨v262, ev262, tv262⟩ : ∃ v : Int32, (Int8.ofInt (108)).toInt32 = v ∧ v.toInt = 108 := ⟨_, rfl, by decide +kernel⟩
  refine lv_bipush hx hb dX10_read_32 ev262 ?_
  obtain ⟨v263, ev263, tv263⟩ : ∃ v : Int32, (Int8.ofInt (108)).toInt32 = v ∧ v.toInt = 108 := ⟨_, rfl, by decide +kernel⟩
  refine lv_bipush hx hb dX10_read_34 ev263 ?_
  obtain ⟨v264, ev264, tv264⟩ : ∃ v : Int32, Int32.ofInt (0) = v ∧ v.toInt = 0 := ⟨_, rfl, by decide +kernel⟩
  refine lv_iconst hx hb dX10_read_36 ev264 ?_
  obtain ⟨v265, ev265, tv265⟩ : ∃ v : Int32, Int32.ofInt (0) = v ∧ v.toInt = 0 := ⟨_, rfl, by decide +kernel⟩
  refine lv_iconst hx hb dX10_read_37 ev265 ?_
  obtain ⟨v266, ev266, tv266⟩ : ∃ v : Int32, Int32.ofInt (0) = v ∧ v.toInt = 0 := ⟨_, rfl, by decide +kernel⟩
  refine lv_iconst hx hb dX10_read_38 ev266 ?_
  refine tc_vl Z.1 Z.2.2.2.1 Z.2.2.2.2.1 Z.2.2.2.2.2 S255.1 S255.2 ha0 ta0 rfl rfl (k_X10_packed_vr l D cy S255.2 ha0 ta0 v261 (by omega) (by omega) v262 (by omega) (by omega) v263 (by omega) (by omega) v264 (by omega) (by omega) v265 (by omega) (by omega) v266 (by omega) (by omega) (by omega) (by omega) (by omega) (by omega) (by omega) (by omega)) (cwV 6 hts gX10_read_X10_packed rfl rfl rfl (by decide +kernel) ⟨Nat.le_of_ble_eq_true rfl, Nat.le_of_ble_eq_true rfl⟩) rfl hl260.1 rfl (Nat.le_of_ble_eq_true rfl) dX10_read_39 ⟨Nat.zero_le _, Nat.zero_le _⟩ (fun v270 E267 H268 k269 W267 I267 G267 p267 => ?_)
  obtain ⟨q267, p267_0⟩ := p267
  have q267 := q267.symm
  subst q267
  have S267 : Now D TB cy (va_A (va_pl L E) sz) s L τ E251 H268 k269 := ⟨W267, I267⟩
  have n39 : v270.toInt = wV 9 := by have q := p267_0; rw [tv261, tv262, tv263, tv264, tv265, tv266] at q; exact q.trans (by decide +kernel)
  refine W.lcmp hx hb dX10_read_42 ?_
  refine lv_topi (fun v271 ev271 => ?_)
  have tv271 := nl_cmp ev271
  refine lv_if_eq (tgt := 75) hx hb dX10_read_43 (by decide) (fun c272 => ?_) (fun c272 => ?_)
  · skip
    have tc272 := nu_eq c272
    have uc272 : (0 : Int32).toInt = 0 := rfl
    exact J75 v258 E251 H268 k269 l259 S267 F251 (by omega) (by omega) (SlotW.same (slot_reset2 (SlotW.same (hS ql hql tql qr hqr tqr qm hqm tqm qd hqd tqd) (P238.1 ql (ne_ro tql ta0 (by decide))) (P238.1 qr (ne_ro tqr ta0 (by decide))) (P238.1 qm (ne_ro tqm ta0 (by decide))) (P238.1 qd (ne_ro tqd ta0 (by decide)))) P243 P248 (by omega) (ne_ro tql tqr (by decide)) (ne_ro tqm tql (by decide)) (ne_ro tqd tql (by decide)) (ne_ro tqm tqr (by decide)) (ne_ro tqd tqr (by decide))) (G251 ql hql (by rw [tql]; rfl)) (G251 qr hqr (by rw [tqr]; rfl)) (G251 qm hqm (by rw [tqm]; rfl)) (G251 qd hqd (by rw [tqd]; rfl))) (by rw [show ai E251 qr a1.toInt.toNat = v247 from ((ai_fr G251 hqr (by rw [tqr]; rfl)).trans P248.2.1)]; omega) ⟨(by rw [((p251_1 5 (by decide)).trans ((fi_set (k := 5) P248 (ne_ro ta0 tqr (by decide))).trans ((fi_set (k := 5) P243 (ne_ro ta0 tql (by decide))).trans (fi_put (k := 5) P238 (Or.inr (by decide))))))]; exact h4), po_20, Or.inr (by rw [← wd_24]; omega)⟩ (fun k hk => ((p251_1 k (fw_sub (by decide) hk)).trans ((fi_set P248 (ne_ro ta0 tqr (by decide))).trans ((fi_set P243 (ne_ro ta0 tql (by decide))).trans ((fi_put P238 (Or.inr (fw_ne (by decide) hk))).trans ((fun k hk => rfl) k hk)))))) (lv_sub hl260 [1, 2, 0] rfl)
  · skip
    have tc272 := nu_ne c272
    have uc272 : (0 : Int32).toInt = 0 := rfl
    refine lv_lload_n hx hb dX10_read_46 rfl (lv_at hl260 0 rfl) ?_
    refine lv_aload_n hx hb dX10_read_47 rfl (lv_at hl260 1 rfl) ?_
    obtain ⟨v273, ev273, tv273⟩ : ∃ v : Int32, (Int8.ofInt (115)).toInt32 = v ∧ v.toInt = 115 := ⟨_, rfl, by decide +kernel⟩
    refine lv_bipush hx hb dX10_read_48 ev273 ?_
    obtain ⟨v274, ev274, tv274⟩ : ∃ v : Int32, (Int8.ofInt (111)).toInt32 = v ∧ v.toInt = 111 := ⟨_, rfl, by decide +kernel⟩
    refine lv_bipush hx hb dX10_read_50 ev274 ?_
    obtain ⟨v275, ev275, tv275⟩ : ∃ v : Int32, (Int8.ofInt (109)).toInt32 = v ∧ v.toInt = 109 := ⟨_, rfl, by decide +kernel⟩
    refine lv_bipush hx hb dX10_read_52 ev275 ?_
    obtain ⟨v276, ev276, tv276⟩ : ∃ v : Int32, (Int8.ofInt (101)).toInt32 = v ∧ v.toInt = 101 := ⟨_, rfl, by decide +kernel⟩
    refine lv_bipush hx hb dX10_read_54 ev276 ?_
    obtain ⟨v277, ev277, tv277⟩ : ∃ v : Int32, Int32.ofInt (0) = v ∧ v.toInt = 0 := ⟨_, rfl, by decide +kernel⟩
    refine lv_iconst hx hb dX10_read_56 ev277 ?_
    obtain ⟨v278, ev278, tv278⟩ : ∃ v : Int32, Int32.ofInt (0) = v ∧ v.toInt = 0 := ⟨_, rfl, by decide +kernel⟩
    refine lv_iconst hx hb dX10_read_57 ev278 ?_
    refine tc_vl Z.1 Z.2.2.2.1 Z.2.2.2.2.1 Z.2.2.2.2.2 S267.1 S267.2 ha0 ta0 rfl rfl (k_X10_packed_vr l D cy S267.2 ha0 ta0 v273 (by omega) (by omega) v274 (by omega) (by omega) v275 (by omega) (by omega) v276 (by omega) (by omega) v277 (by omega) (by omega) v278 (by omega) (by omega) (by omega) (by omega) (by omega) (by omega) (by omega) (by omega)) (cwV 6 hts gX10_read_X10_packed rfl rfl rfl (by decide +kernel) ⟨Nat.le_of_ble_eq_true rfl, Nat.le_of_ble_eq_true rfl⟩) rfl hl260.1 rfl (Nat.le_of_ble_eq_true rfl) dX10_read_58 ⟨Nat.zero_le _, Nat.zero_le _⟩ (fun v282 E279 H280 k281 W279 I279 G279 p279 => ?_)
    obtain ⟨q279, p279_0⟩ := p279
    have q279 := q279.symm
    subst q279
    have S279 : Now D TB cy (va_A (va_pl L E) sz) s L τ E251 H280 k281 := ⟨W279, I279⟩
    have n58 : v282.toInt = wV 8 := by have q := p279_0; rw [tv273, tv274, tv275, tv276, tv277, tv278] at q; exact q.trans (by decide +kernel)
    refine W.lcmp hx hb dX10_read_61 ?_
    refine lv_topi (fun v283 ev283 => ?_)
    have tv283 := nl_cmp ev283
    refine lv_if_eq (tgt := 75) hx hb dX10_read_62 (by decide) (fun c284 => ?_) (fun c284 => ?_)
    · skip
      have tc284 := nu_eq c284
      have uc284 : (0 : Int32).toInt = 0 := rfl
      exact J75 v258 E251 H280 k281 l259 S279 F251 (by omega) (by omega) (SlotW.same (slot_reset2 (SlotW.same (hS ql hql tql qr hqr tqr qm hqm tqm qd hqd tqd) (P238.1 ql (ne_ro tql ta0 (by decide))) (P238.1 qr (ne_ro tqr ta0 (by decide))) (P238.1 qm (ne_ro tqm ta0 (by decide))) (P238.1 qd (ne_ro tqd ta0 (by decide)))) P243 P248 (by omega) (ne_ro tql tqr (by decide)) (ne_ro tqm tql (by decide)) (ne_ro tqd tql (by decide)) (ne_ro tqm tqr (by decide)) (ne_ro tqd tqr (by decide))) (G251 ql hql (by rw [tql]; rfl)) (G251 qr hqr (by rw [tqr]; rfl)) (G251 qm hqm (by rw [tqm]; rfl)) (G251 qd hqd (by rw [tqd]; rfl))) (by rw [show ai E251 qr a1.toInt.toNat = v247 from ((ai_fr G251 hqr (by rw [tqr]; rfl)).trans P248.2.1)]; omega) ⟨(by rw [((p251_1 5 (by decide)).trans ((fi_set (k := 5) P248 (ne_ro ta0 tqr (by decide))).trans ((fi_set (k := 5) P243 (ne_ro ta0 tql (by decide))).trans (fi_put (k := 5) P238 (Or.inr (by decide))))))]; exact h4), po_20, Or.inl (by rw [← wd_24]; omega)⟩ (fun k hk => ((p251_1 k (fw_sub (by decide) hk)).trans ((fi_set P248 (ne_ro ta0 tqr (by decide))).trans ((fi_set P243 (ne_ro ta0 tql (by decide))).trans ((fi_put P238 (Or.inr (fw_ne (by decide) hk))).trans ((fun k hk => rfl) k hk)))))) (lv_sub hl260 [1, 2, 0] rfl)
    · skip
      have tc284 := nu_ne c284
      have uc284 : (0 : Int32).toInt = 0 := rfl
      refine lv_aload_n hx hb dX10_read_65 rfl (lv_at hl260 1 rfl) ?_
      obtain ⟨v285, ev285, tv285⟩ : ∃ v : Int32, Int32.ofInt (1) = v ∧ v.toInt = 1 := ⟨_, rfl, by decide +kernel⟩
      refine lv_iconst hx hb dX10_read_66 ev285 ?_
      refine lv_aload_n hx hb dX10_read_67 rfl (lv_at hl260 1 rfl) ?_
      refine tr_geti Z.1 Z.2.2.2.1 S279.1 S279.2 ha0 ta0 rfl rfl (fun _ h => List.mem_cons_of_mem _ (List.mem_append_right _ h)) 22 (by decide) rfl (hts _ (List.mem_of_getElem? (i := 1) rfl)) dX10_read_68 (fun v286 ev286 lv286 uv286 => ?_)
      have wv286 : v286 = (fi E251 a0 22) := ev286.symm.trans rfl
      have xv286 : v286.toInt = (fi E251 a0 22).toInt := by rw [wv286]
      have f0_71 : (fi E251 a0 5).toInt = 0 := (by rw [((p251_1 5 (by decide)).trans ((fi_set (k := 5) P248 (ne_ro ta0 tqr (by decide))).trans ((fi_set (k := 5) P243 (ne_ro ta0 tql (by decide))).trans (fi_put (k := 5) P238 (Or.inr (by decide))))))]; exact h4)
      refine tc_vv Z.1 Z.2.2.2.1 Z.2.2.2.2.1 Z.2.2.2.2.2 S279.1 S279.2 ha0 ta0 rfl rfl (k_X10_wrong_vr l D cy S279.2 ha0 ta0 v285 (by omega) (by omega) v286) (cwV 2 hts gX10_read_X10_wrong rfl rfl rfl (by decide +kernel) ⟨Nat.le_of_ble_eq_true rfl, Nat.le_of_ble_eq_true rfl⟩) rfl hl260.1 rfl (Nat.le_of_ble_eq_true rfl) dX10_read_71 ⟨Nat.zero_le _, Nat.zero_le _⟩ (fun E287 H288 k289 W287 I287 G287 p287 => ?_)
      obtain ⟨p287_0, p287_1⟩ := p287
      have S287 : Now D TB cy (va_A (va_pl L E) sz) s L τ E287 H288 k289 := ⟨W287, I287⟩
      have F287 : Fr L τ (inW [(11, 0), (74, 0), (75, 0), (76, 0), (77, 0), (78, 0), (79, 0), (80, 0)]) E E287 := F251.trans (G287.mono (inW_mono (by decide)))
      have ff_71 : (fi E287 a0 5).toInt = v285.toInt ∧ (fi E287 a0 6).toInt = v286.toInt := by rcases p287_0 with q | q; omega; exact q.2
      rw [← hQ]
      exact en_v Z S287 F287 ⟨(by rw [read_bad (by rw [quant_no (fun w => by rw [← wd_24] at w; omega)]; exact ne_b (by decide)), quant_no (fun w => by rw [← wd_24] at w; omega)]; exact (Did.bad (p := 0) (by decide) (by omega) (by omega)).f), (fun k hk => ((p287_1 k (fw_sub (by decide) hk)).trans ((p251_1 k (fw_sub (by decide) hk)).trans ((fi_set P248 (ne_ro ta0 tqr (by decide))).trans ((fi_set P243 (ne_ro ta0 tql (by decide))).trans ((fi_put P238 (Or.inr (fw_ne (by decide) hk))).trans ((fun k hk => rfl) k hk))))))), (SlotOK.fin S287.2 hql tql hqr tqr hqm tqm hqd tqd (SlotW.same (SlotW.same (slot_reset2 (SlotW.same (hS ql hql tql qr hqr tqr qm hqm tqm qd hqd tqd) (P238.1 ql (ne_ro tql ta0 (by decide))) (P238.1 qr (ne_ro tqr ta0 (by decide))) (P238.1 qm (ne_ro tqm ta0 (by decide))) (P238.1 qd (ne_ro tqd ta0 (by decide)))) P243 P248 (by omega) (ne_ro tql tqr (by decide)) (ne_ro tqm tql (by decide)) (ne_ro tqd tql (by decide)) (ne_ro tqm tqr (by decide)) (ne_ro tqd tqr (by decide))) (G251 ql hql (by rw [tql]; rfl)) (G251 qr hqr (by rw [tqr]; rfl)) (G251 qm hqm (by rw [tqm]; rfl)) (G251 qd hqd (by rw [tqd]; rfl))) (G287 ql hql (by rw [tql]; rfl)) (G287 qr hqr (by rw [tqr]; rfl)) (G287 qm hqm (by rw [tqm]; rfl)) (G287 qd hqd (by rw [tqd]; rfl))))⟩ dX10_read_74

set_option maxHeartbeats 4000000 in
set_option maxRecDepth 100000 in
theorem k_X10_law_vr (l : Launch) (D : va_G) (cy : Nat → ClassId) {L : List Nat} {τ : Nat → Ro} {E : Ec} (hI : Inv TB cy L τ E) {a0 : Nat} (ha0 : a0 ∈ L) (ta0 : τ a0 = (11, 0)) (a1 : Int32) {qv : Nat} (hqv : qv ∈ L) (tqv : τ qv = (72, 0)) (hC : Chain L τ E) (hS : SlotOK L τ E) : CtI l yX10_law wsX10_law { frames := 5, cells := 0, slots := 0, locals := 127 } D TB cy L τ E [.ref a0, .int a1] (inW [(11, 0), (74, 0), (75, 0), (76, 0), (77, 0), (78, 0), (79, 0), (80, 0), (73, 0), (60, 0), (61, 0)]) (fun r E' => ((0 ≤ a1.toInt ∧ a1.toInt ≤ (fi E a0 20).toInt ∧ (fi E' a0 20).toInt = 0 ∧ DidF (fi E' a0 5).toInt (fi E' a0 6).toInt (readI (mkB (fun i => (ai E qv i).toInt) a1.toInt.toNat) a1.toInt.toNat)) ∨ (¬ (0 ≤ a1.toInt ∧ a1.toInt ≤ (fi E a0 20).toInt) ∧ (fi E' a0 20).toInt = (fi E a0 20).toInt ∧ fi E' a0 5 = fi E a0 5 ∧ ∀ i : Nat, ai E' qv i = ai E qv i)) ∧ (∀ k : Nat, k ∉ ([2, 3, 4, 5, 6, 20, 21, 22] : List Nat) → fi E' a0 k = fi E a0 k) ∧ Chain L τ E' ∧ SlotOK L τ E') := by
  intro sz
  refine sta (cc := cX10_law) (maxL := 3) hI (by decide) rfl (Nat.le_of_ble_eq_true rfl) (fun p e s m args below meth c ls hsz Z S0 hl => ?_)
  have hx := Z.1.1
  have hb := Z.1.2.1
  have hts := Z.1.2.2.2.2
  have F0_ : Fr L τ (inW [(11, 0), (74, 0), (75, 0), (76, 0), (77, 0), (78, 0), (79, 0), (80, 0), (73, 0), (60, 0), (61, 0)]) E E := Fr.refl
  have hl : lv_has ls 3 [(0, .ref a0), (1, .int a1)] := hl
  generalize hQ : MQ below _ args s 0 0 _ = QQ
  obtain ⟨qn, hqn, tqn⟩ := ref_of (k := 0) hI ha0 ta0 rfl rfl
  have tqn : τ qn = (60, 0) := tqn
  obtain ⟨qp, hqp, tqp⟩ := ref_of (k := 1) hI ha0 ta0 rfl rfl
  have tqp : τ qp = (61, 0) := tqp
  obtain ⟨ql, hql, tql⟩ := ref_of (k := 24) hI ha0 ta0 rfl rfl
  have tql : τ ql = (75, 0) := tql
  obtain ⟨qr, hqr, tqr⟩ := ref_of (k := 25) hI ha0 ta0 rfl rfl
  have tqr : τ qr = (76, 0) := tqr
  obtain ⟨qm, hqm, tqm⟩ := ref_of (k := 26) hI ha0 ta0 rfl rfl
  have tqm : τ qm = (77, 0) := tqm
  obtain ⟨qd, hqd, tqd⟩ := ref_of (k := 28) hI ha0 ta0 rfl rfl
  have tqd : τ qd = (79, 0) := tqd
  obtain ⟨qx, hqx, tqx⟩ := ref_of (k := 19) hI ha0 ta0 rfl rfl
  have tqx : τ qx = (73, 0) := tqx
  have kz_a0_20 := fi_rng (k := 20) hI ha0 ta0 rfl rfl
  have J26 : ∀ (n : Nat) (x2_26 : Int32) (E_26 : Ec) (H_26 : Heap) (k_26 : List Loc) (l_26 : Array Slot), Now D TB cy (va_A (va_pl L E) sz) s L τ E_26 H_26 k_26 → Fr L τ (inW [(11, 0), (74, 0), (75, 0), (76, 0), (77, 0), (78, 0), (79, 0), (80, 0), (73, 0), (60, 0), (61, 0)]) E E_26 → (0 ≤ a1.toInt) → (a1.toInt ≤ 120) → (0 ≤ x2_26.toInt) → (x2_26.toInt ≤ 120) → (∀ i : Nat, i < x2_26.toInt.toNat → ai E_26 qx i = ai E qv i) → (SlotOK L τ E_26) → (Chain L τ E_26) → (∀ k : Nat, k ∉ ([2, 3, 4, 5, 6, 20, 21, 22] : List Nat) → fi E_26 a0 k = fi E a0 k) → (0 ≤ (fi E_26 a0 20).toInt ∧ (fi E_26 a0 20).toInt ≤ 120 ∧ (fi E_26 a0 20).toInt = (fi E a0 20).toInt ∧ 0 ≤ a1.toInt ∧ a1.toInt ≤ (fi E a0 20).toInt) → (120 - x2_26.toInt).toNat < n → lv_has l_26 3 [(0, .ref a0), (1, .int a1), (2, .int x2_26)] → W p l e { frames := 5, cells := 0, slots := 0, locals := 127 } s m args below meth c H_26 k_26 0 0 QQ (F0 m 26 l_26 []) := by
    intro n
    induction n with
    | zero => intro x2_26 E_26 H_26 k_26 l_26 S_26 F_26 z1 z2 z3 z4 z5 z6 z7 z8 z9 hm hl_26; exact absurd hm (Nat.not_lt_zero _)
    | succ n ih =>
      intro x2_26 E_26 H_26 k_26 l_26 S_26 F_26 z1 z2 z3 z4 z5 z6 z7 z8 z9 hm hl_26
      have ih_26 := ih
      refine lv_iload_n hx hb dX10_law_26 rfl (lv_at hl_26 2 rfl) ?_
      refine lv_iload_n hx hb dX10_law_27 rfl (lv_at hl_26 1 rfl) ?_
      refine lv_icmp_ge (tgt := 49) hx hb dX10_law_28 (by decide) (fun c10 => ?_) (fun c10 => ?_)
      · skip
        have tc10 := nu_le c10
        refine lv_aload_n hx hb dX10_law_49 rfl (lv_at hl_26 0 rfl) ?_
        refine lv_iload_n hx hb dX10_law_50 rfl (lv_at hl_26 1 rfl) ?_
        refine tr_puti Z.1 Z.2.2.2.1 S_26.1 S_26.2 ha0 ta0 rfl rfl (fun _ h => List.mem_cons_of_mem _ (List.mem_append_right _ h)) tyX10_ok nmX10 21 (by decide) rfl rfl rfl (hts _ (List.mem_of_getElem? (i := 5) rfl)) dX10_law_51 (by omega) (by omega) (fun E11 H12 k13 W11 I11 P11 => ?_)
        have S11 : Now D TB cy (va_A (va_pl L E) sz) s L τ E11 H12 k13 := ⟨W11, I11⟩
        have F11 : Fr L τ (inW [(11, 0), (74, 0), (75, 0), (76, 0), (77, 0), (78, 0), (79, 0), (80, 0), (73, 0), (60, 0), (61, 0)]) E E11 := Fr.put F_26 P11 ta0 rfl
        refine lv_aload_n hx hb dX10_law_54 rfl (lv_at hl_26 0 rfl) ?_
        obtain ⟨v14, ev14, tv14⟩ : ∃ v : Int32, Int32.ofInt (0) = v ∧ v.toInt = 0 := ⟨_, rfl, by decide +kernel⟩
        refine lv_iconst hx hb dX10_law_55 ev14 ?_
        refine tr_puti Z.1 Z.2.2.2.1 S11.1 S11.2 ha0 ta0 rfl rfl (fun _ h => List.mem_cons_of_mem _ (List.mem_append_right _ h)) tyX10_ok nmX10 20 (by decide) rfl rfl rfl (hts _ (List.mem_of_getElem? (i := 2) rfl)) dX10_law_56 (by omega) (by omega) (fun E15 H16 k17 W15 I15 P15 => ?_)
        have S15 : Now D TB cy (va_A (va_pl L E) sz) s L τ E15 H16 k17 := ⟨W15, I15⟩
        have F15 : Fr L τ (inW [(11, 0), (74, 0), (75, 0), (76, 0), (77, 0), (78, 0), (79, 0), (80, 0), (73, 0), (60, 0), (61, 0)]) E E15 := Fr.put F11 P15 ta0 rfl
        refine lv_aload_n hx hb dX10_law_59 rfl (lv_at hl_26 0 rfl) ?_
        obtain ⟨v18, ev18, tv18⟩ : ∃ v : Int32, Int32.ofInt (0) = v ∧ v.toInt = 0 := ⟨_, rfl, by decide +kernel⟩
        refine lv_iconst hx hb dX10_law_60 ev18 ?_
        refine tr_puti Z.1 Z.2.2.2.1 S15.1 S15.2 ha0 ta0 rfl rfl (fun _ h => List.mem_cons_of_mem _ (List.mem_append_right _ h)) tyX10_ok nmX10 5 (by decide) rfl rfl rfl (hts _ (List.mem_of_getElem? (i := 6) rfl)) dX10_law_61 (by have := fb_rng v18; omega) (by have := fb_rng v18; omega) (fun E19 H20 k21 W19 I19 P19 => ?_)
        have S19 : Now D TB cy (va_A (va_pl L E) sz) s L τ E19 H20 k21 := ⟨W19, I19⟩
        have F19 : Fr L τ (inW [(11, 0), (74, 0), (75, 0), (76, 0), (77, 0), (78, 0), (79, 0), (80, 0), (73, 0), (60, 0), (61, 0)]) E E19 := Fr.put F15 P19 ta0 rfl
        refine lv_aload_n hx hb dX10_law_64 rfl (lv_at hl_26 0 rfl) ?_
        obtain ⟨v22, ev22, tv22⟩ : ∃ v : Int32, Int32.ofInt (-1) = v ∧ v.toInt = -1 := ⟨_, rfl, by decide +kernel⟩
        refine lv_iconst hx hb dX10_law_65 ev22 ?_
        refine tr_puti Z.1 Z.2.2.2.1 S19.1 S19.2 ha0 ta0 rfl rfl (fun _ h => List.mem_cons_of_mem _ (List.mem_append_right _ h)) tyX10_ok nmX10 6 (by decide) rfl rfl rfl (hts _ (List.mem_of_getElem? (i := 7) rfl)) dX10_law_66 (by have := fb_rng v22; omega) (by have := fb_rng v22; omega) (fun E23 H24 k25 W23 I23 P23 => ?_)
        have S23 : Now D TB cy (va_A (va_pl L E) sz) s L τ E23 H24 k25 := ⟨W23, I23⟩
        have F23 : Fr L τ (inW [(11, 0), (74, 0), (75, 0), (76, 0), (77, 0), (78, 0), (79, 0), (80, 0), (73, 0), (60, 0), (61, 0)]) E E23 := Fr.put F19 P23 ta0 rfl
        refine lv_aload_n hx hb dX10_law_69 rfl (lv_at hl_26 0 rfl) ?_
        refine tc_vi Z.1 Z.2.2.2.1 Z.2.2.2.2.1 Z.2.2.2.2.2 S23.1 S23.2 ha0 ta0 rfl rfl (k_X10_freeSlot l D cy S23.2 ha0 ta0 (Chain.same z7 S23.2 ha0 ta0 hqn tqn hqp tqp ((P23.1 qn (ne_ro tqn ta0 (by decide))).trans ((P19.1 qn (ne_ro tqn ta0 (by decide))).trans ((P15.1 qn (ne_ro tqn ta0 (by decide))).trans (P11.1 qn (ne_ro tqn ta0 (by decide)))))) ((P23.1 qp (ne_ro tqp ta0 (by decide))).trans ((P19.1 qp (ne_ro tqp ta0 (by decide))).trans ((P15.1 qp (ne_ro tqp ta0 (by decide))).trans (P11.1 qp (ne_ro tqp ta0 (by decide)))))) ((fi_put (k := 2) P23 (Or.inr (by decide))).trans ((fi_put (k := 2) P19 (Or.inr (by decide))).trans ((fi_put (k := 2) P15 (Or.inr (by decide))).trans (fi_put (k := 2) P11 (Or.inr (by decide)))))))) (cwV 0 hts gX10_law_X10_freeSlot rfl rfl rfl (by decide +kernel) ⟨Nat.le_of_ble_eq_true rfl, Nat.le_of_ble_eq_true rfl⟩) rfl hl_26.1 rfl (Nat.le_of_ble_eq_true rfl) dX10_law_70 ⟨Nat.zero_le _, Nat.zero_le _⟩ (fun v29 E26 H27 k28 W26 I26 G26 p26 => ?_)
        obtain ⟨q26, p26_0, p26_1⟩ := p26
        have q26 := q26.symm
        subst q26
        have S26 : Now D TB cy (va_A (va_pl L E) sz) s L τ E23 H27 k28 := ⟨W26, I26⟩
        refine lv_istore_n (lv' := [(2, .int v29), (0, .ref a0), (1, .int a1)]) hx hb dX10_law_73 rfl hl_26 (by decide) rfl (fun l30 hl31 => ?_)
        refine lv_aload_n hx hb dX10_law_74 rfl (lv_at hl31 1 rfl) ?_
        refine lv_iload_n hx hb dX10_law_75 rfl (lv_at hl31 0 rfl) ?_
        have f0_76 : (fi E23 a0 5).toInt = 0 := by rw [((fi_put (k := 5) P23 (Or.inr (by decide))).trans (fi_at P19))]; omega
        have fx_76 : (fi E23 a0 21).toInt.toNat = a1.toInt.toNat := by rw [((fi_put (k := 21) P23 (Or.inr (by decide))).trans ((fi_put (k := 21) P19 (Or.inr (by decide))).trans ((fi_put (k := 21) P15 (Or.inr (by decide))).trans (fi_at P11))))]
        have tx_76 : tx E23 qx a0 21 = (mkB (fun i => (ai E qv i).toInt) a1.toInt.toNat) := by unfold tx; rw [fx_76]; exact mk_eq (fun i hi => congrArg Int32.toInt ((ai_put P23 (ne_ro tqx ta0 (by decide))).trans ((ai_put P19 (ne_ro tqx ta0 (by decide))).trans ((ai_put P15 (ne_ro tqx ta0 (by decide))).trans ((ai_put P11 (ne_ro tqx ta0 (by decide))).trans (z5 i (by omega)))))))
        refine tc_vv Z.1 Z.2.2.2.1 Z.2.2.2.2.1 Z.2.2.2.2.2 S26.1 S26.2 ha0 ta0 rfl rfl (k_X10_read_vr l D cy S26.2 ha0 ta0 v29 (by omega) (by omega) hqx tqx f0_76 (SlotOK.same z6 S26.2 hql tql hqr tqr hqm tqm hqd tqd ((P23.1 ql (ne_ro tql ta0 (by decide))).trans ((P19.1 ql (ne_ro tql ta0 (by decide))).trans ((P15.1 ql (ne_ro tql ta0 (by decide))).trans (P11.1 ql (ne_ro tql ta0 (by decide)))))) ((P23.1 qr (ne_ro tqr ta0 (by decide))).trans ((P19.1 qr (ne_ro tqr ta0 (by decide))).trans ((P15.1 qr (ne_ro tqr ta0 (by decide))).trans (P11.1 qr (ne_ro tqr ta0 (by decide)))))) ((P23.1 qm (ne_ro tqm ta0 (by decide))).trans ((P19.1 qm (ne_ro tqm ta0 (by decide))).trans ((P15.1 qm (ne_ro tqm ta0 (by decide))).trans (P11.1 qm (ne_ro tqm ta0 (by decide)))))) ((P23.1 qd (ne_ro tqd ta0 (by decide))).trans ((P19.1 qd (ne_ro tqd ta0 (by decide))).trans ((P15.1 qd (ne_ro tqd ta0 (by decide))).trans (P11.1 qd (ne_ro tqd ta0 (by decide)))))))) (cwV 1 hts gX10_law_X10_read rfl rfl rfl (by decide +kernel) ⟨Nat.le_of_ble_eq_true rfl, Nat.le_of_ble_eq_true rfl⟩) rfl hl31.1 rfl (Nat.le_of_ble_eq_true rfl) dX10_law_76 ⟨Nat.zero_le _, Nat.zero_le _⟩ (fun E32 H33 k34 W32 I32 G32 p32 => ?_)
        obtain ⟨p32_0, p32_1, p32_2⟩ := p32
        have S32 : Now D TB cy (va_A (va_pl L E) sz) s L τ E32 H33 k34 := ⟨W32, I32⟩
        have F32 : Fr L τ (inW [(11, 0), (74, 0), (75, 0), (76, 0), (77, 0), (78, 0), (79, 0), (80, 0), (73, 0), (60, 0), (61, 0)]) E E32 := F23.trans (G32.mono (inW_mono (by decide)))
        have dr_76 : DidF (fi E32 a0 5).toInt (fi E32 a0 6).toInt (readI (mkB (fun i => (ai E qv i).toInt) a1.toInt.toNat) a1.toInt.toNat) := by have q := p32_0; rw [tx_76, fx_76] at q; exact q
        have kp_76f := fi_rng (k := 5) S32.2 ha0 ta0 rfl rfl
        refine lv_aload_n hx hb dX10_law_79 rfl (lv_at hl31 1 rfl) ?_
        refine tc_vi Z.1 Z.2.2.2.1 Z.2.2.2.2.1 Z.2.2.2.2.2 S32.1 S32.2 ha0 ta0 rfl rfl (k_X10_bad l D cy S32.2 ha0 ta0) (cwV 0 hts gX10_law_X10_bad rfl rfl rfl (by decide +kernel) ⟨Nat.le_of_ble_eq_true rfl, Nat.le_of_ble_eq_true rfl⟩) rfl hl31.1 rfl (Nat.le_of_ble_eq_true rfl) dX10_law_80 ⟨Nat.zero_le _, Nat.zero_le _⟩ (fun v39 E36 H37 k38 W36 I36 G36 p36 => ?_)
        obtain ⟨q36, p36_0, p36_1, p36_2⟩ := p36
        have q36 := q36.symm
        subst q36
        have S36 : Now D TB cy (va_A (va_pl L E) sz) s L τ E32 H37 k38 := ⟨W36, I36⟩
        refine lv_if_eq (tgt := 93) hx hb dX10_law_83 (by decide) (fun c40 => ?_) (fun c40 => ?_)
        · skip
          have tc40 := nu_eq c40
          have uc40 : (0 : Int32).toInt = 0 := rfl
          have ge_76 := read_ge (B := (mkB (fun i => (ai E qv i).toInt) a1.toInt.toNat)) (n := a1.toInt.toNat)
          have e1_76 := dr_76.1
          have f0_93 : (fi E32 a0 5).toInt = 0 := by omega
          refine lv_aload_n hx hb dX10_law_93 rfl (lv_at hl31 1 rfl) ?_
          refine tr_getr Z.1 Z.2.2.2.1 S36.1 S36.2 ha0 ta0 rfl rfl (fun _ h => List.mem_cons_of_mem _ (List.mem_append_right _ h)) 0 (by decide) rfl (hts _ (List.mem_of_getElem? (i := 9) rfl)) dX10_law_94 (fun q41 eq41 hq41 tq41 => ?_)
          have tq41 : τ q41 = (60, 0) := tq41
          have uq41 : qn = q41 := S36.2.2.2.2 _ hqn _ hq41 (tqn.trans tq41.symm) (by rw [tqn]; rfl)
          subst uq41
          obtain ⟨v42, ev42, tv42⟩ : ∃ v : Int32, (Int8.ofInt (44)).toInt32 = v ∧ v.toInt = 44 := ⟨_, rfl, by decide +kernel⟩
          refine lv_bipush hx hb dX10_law_97 ev42 ?_
          refine tr_ialdx Z.1 Z.2.2.2.1 S36.1 S36.2 hqn tqn rfl (by omega) (by omega) dX10_law_99 (fun v43 ev43 lv43 uv43 => ?_)
          have bv43 : nowB v42.toNatClampNeg = (0, 8) := nb_44 (by show v42.toInt.toNat = 44; omega)
          rw [bv43] at lv43 uv43
          have lv43 : 0 ≤ v43.toInt := lv43
          have uv43 : v43.toInt ≤ 8 := uv43
          have av43 : ai E32 qn 44 = v43 := ai_at ev43 (by omega)
          obtain ⟨v44, ev44, tv44⟩ : ∃ v : Int32, (Int8.ofInt (8)).toInt32 = v ∧ v.toInt = 8 := ⟨_, rfl, by decide +kernel⟩
          refine lv_bipush hx hb dX10_law_100 ev44 ?_
          refine lv_icmp_ne (tgt := 111) hx hb dX10_law_102 (by decide) (fun c45 => ?_) (fun c45 => ?_)
          · skip
            have tc45 := nu_ne c45
            refine lv_aload_n hx hb dX10_law_111 rfl (lv_at hl31 1 rfl) ?_
            refine tc_vv Z.1 Z.2.2.2.1 Z.2.2.2.2.1 Z.2.2.2.2.2 S36.1 S36.2 ha0 ta0 rfl rfl (k_X10_act l D cy S36.2 ha0 ta0 (Chain.same z7 S36.2 ha0 ta0 hqn tqn hqp tqp ((G32 qn hqn (by rw [tqn]; rfl)).trans ((P23.1 qn (ne_ro tqn ta0 (by decide))).trans ((P19.1 qn (ne_ro tqn ta0 (by decide))).trans ((P15.1 qn (ne_ro tqn ta0 (by decide))).trans (P11.1 qn (ne_ro tqn ta0 (by decide))))))) ((G32 qp hqp (by rw [tqp]; rfl)).trans ((P23.1 qp (ne_ro tqp ta0 (by decide))).trans ((P19.1 qp (ne_ro tqp ta0 (by decide))).trans ((P15.1 qp (ne_ro tqp ta0 (by decide))).trans (P11.1 qp (ne_ro tqp ta0 (by decide))))))) ((p32_1 2 (by decide)).trans ((fi_put (k := 2) P23 (Or.inr (by decide))).trans ((fi_put (k := 2) P19 (Or.inr (by decide))).trans ((fi_put (k := 2) P15 (Or.inr (by decide))).trans (fi_put (k := 2) P11 (Or.inr (by decide))))))))) (cwV 0 hts gX10_law_X10_act rfl rfl rfl (by decide +kernel) ⟨Nat.le_of_ble_eq_true rfl, Nat.le_of_ble_eq_true rfl⟩) rfl hl31.1 rfl (Nat.le_of_ble_eq_true rfl) dX10_law_112 ⟨Nat.zero_le _, Nat.zero_le _⟩ (fun E46 H47 k48 W46 I46 G46 p46 => ?_)
            obtain ⟨p46_0, p46_1⟩ := p46
            have S46 : Now D TB cy (va_A (va_pl L E) sz) s L τ E46 H47 k48 := ⟨W46, I46⟩
            have F46 : Fr L τ (inW [(11, 0), (74, 0), (75, 0), (76, 0), (77, 0), (78, 0), (79, 0), (80, 0), (73, 0), (60, 0), (61, 0)]) E E46 := F32.trans (G46.mono (inW_mono (by decide)))
            have C50 : ∀ T : Nat → Int32, Link (ai E_26 qn) T → ChW E46 a0 qp T := fun T hT => p46_0 qn hqn tqn qp hqp tqp T (by rw [ai_cell ((G32 qn hqn (by rw [tqn]; rfl)).trans ((P23.1 qn (ne_ro tqn ta0 (by decide))).trans ((P19.1 qn (ne_ro tqn ta0 (by decide))).trans ((P15.1 qn (ne_ro tqn ta0 (by decide))).trans (P11.1 qn (ne_ro tqn ta0 (by decide)))))))]; exact hT)
            have B51 : ∀ j : Nat, 44 ≤ j → j ≤ 52 → ai E46 qn j = ai E_26 qn j := fun j _ _ => ((ai_fr G46 hqn (by rw [tqn]; rfl)).trans ((ai_fr G32 hqn (by rw [tqn]; rfl)).trans ((ai_put P23 (ne_ro tqn ta0 (by decide))).trans ((ai_put P19 (ne_ro tqn ta0 (by decide))).trans ((ai_put P15 (ne_ro tqn ta0 (by decide))).trans (ai_put P11 (ne_ro tqn ta0 (by decide))))))))
            refine lv_aload_n hx hb dX10_law_115 rfl (lv_at hl31 1 rfl) ?_
            refine tr_getr Z.1 Z.2.2.2.1 S46.1 S46.2 ha0 ta0 rfl rfl (fun _ h => List.mem_cons_of_mem _ (List.mem_append_right _ h)) 0 (by decide) rfl (hts _ (List.mem_of_getElem? (i := 9) rfl)) dX10_law_116 (fun q52 eq52 hq52 tq52 => ?_)
            have tq52 : τ q52 = (60, 0) := tq52
            have uq52 : qn = q52 := S46.2.2.2.2 _ hqn _ hq52 (tqn.trans tq52.symm) (by rw [tqn]; rfl)
            subst uq52
            obtain ⟨v53, ev53, tv53⟩ : ∃ v : Int32, (Int8.ofInt (45)).toInt32 = v ∧ v.toInt = 45 := ⟨_, rfl, by decide +kernel⟩
            refine lv_bipush hx hb dX10_law_119 ev53 ?_
            refine lv_aload_n hx hb dX10_law_121 rfl (lv_at hl31 1 rfl) ?_
            refine tr_getr Z.1 Z.2.2.2.1 S46.1 S46.2 ha0 ta0 rfl rfl (fun _ h => List.mem_cons_of_mem _ (List.mem_append_right _ h)) 0 (by decide) rfl (hts _ (List.mem_of_getElem? (i := 9) rfl)) dX10_law_122 (fun q54 eq54 hq54 tq54 => ?_)
            have tq54 : τ q54 = (60, 0) := tq54
            have uq54 : qn = q54 := S46.2.2.2.2 _ hqn _ hq54 (tqn.trans tq54.symm) (by rw [tqn]; rfl)
            subst uq54
            obtain ⟨v55, ev55, tv55⟩ : ∃ v : Int32, (Int8.ofInt (44)).toInt32 = v ∧ v.toInt = 44 := ⟨_, rfl, by decide +kernel⟩
            refine lv_bipush hx hb dX10_law_125 ev55 ?_
            refine tr_ialdx Z.1 Z.2.2.2.1 S46.1 S46.2 hqn tqn rfl (by omega) (by omega) dX10_law_127 (fun v56 ev56 lv56 uv56 => ?_)
            have bv56 : nowB v55.toNatClampNeg = (0, 8) := nb_44 (by show v55.toInt.toNat = 44; omega)
            rw [bv56] at lv56 uv56
            have lv56 : 0 ≤ v56.toInt := lv56
            have uv56 : v56.toInt ≤ 8 := uv56
            have av56 : ai E46 qn 44 = v56 := ai_at ev56 (by omega)
            have wv56 : v56 = v43 := av56.symm.trans ((ai_fr G46 hqn (by rw [tqn]; rfl)).trans av43)
            have xv56 : v56.toInt = v43.toInt := by rw [wv56]
            refine lv_iadd hx hb dX10_law_128 ?_
            refine lv_topi (fun v57 ev57 => ?_)
            have tv57 := nu_add ev57 (by omega) (by omega)
            refine lv_iload_n hx hb dX10_law_129 rfl (lv_at hl31 0 rfl) ?_
            have b58 : nowB v57.toNatClampNeg = (0, 49) := nb_45 (by show 45 ≤ v57.toInt.toNat ∧ v57.toInt.toNat ≤ 52; omega)
            have b58 : (nowB v57.toNatClampNeg).1 ≤ v29.toInt ∧ v29.toInt ≤ (nowB v57.toNatClampNeg).2 := by rw [b58]; have := fb_rng v29; show 0 ≤ v29.toInt ∧ v29.toInt ≤ 49; omega
            refine tr_iastx Z.1 Z.2.2.2.1 S46.1 S46.2 hqn tqn rfl (by omega) (by omega) b58.1 b58.2 dX10_law_130 (fun E58 H59 k60 W58 I58 P58 => ?_)
            have S58 : Now D TB cy (va_A (va_pl L E) sz) s L τ E58 H59 k60 := ⟨W58, I58⟩
            have F58 : Fr L τ (inW [(11, 0), (74, 0), (75, 0), (76, 0), (77, 0), (78, 0), (79, 0), (80, 0), (73, 0), (60, 0), (61, 0)]) E E58 := Fr.set F46 P58 tqn rfl
            refine lv_aload_n hx hb dX10_law_131 rfl (lv_at hl31 1 rfl) ?_
            refine tr_getr Z.1 Z.2.2.2.1 S58.1 S58.2 ha0 ta0 rfl rfl (fun _ h => List.mem_cons_of_mem _ (List.mem_append_right _ h)) 0 (by decide) rfl (hts _ (List.mem_of_getElem? (i := 9) rfl)) dX10_law_132 (fun q61 eq61 hq61 tq61 => ?_)
            have tq61 : τ q61 = (60, 0) := tq61
            have uq61 : qn = q61 := S58.2.2.2.2 _ hqn _ hq61 (tqn.trans tq61.symm) (by rw [tqn]; rfl)
            subst uq61
            obtain ⟨v62, ev62, tv62⟩ : ∃ v : Int32, (Int8.ofInt (44)).toInt32 = v ∧ v.toInt = 44 := ⟨_, rfl, by decide +kernel⟩
            refine lv_bipush hx hb dX10_law_135 ev62 ?_
            refine lv_dup2_11 hx hb dX10_law_137 rfl rfl ?_
            refine tr_ialdx Z.1 Z.2.2.2.1 S58.1 S58.2 hqn tqn rfl (by omega) (by omega) dX10_law_138 (fun v63 ev63 lv63 uv63 => ?_)
            have bv63 : nowB v62.toNatClampNeg = (0, 8) := nb_44 (by show v62.toInt.toNat = 44; omega)
            rw [bv63] at lv63 uv63
            have lv63 : 0 ≤ v63.toInt := lv63
            have uv63 : v63.toInt ≤ 8 := uv63
            have av63 : ai E58 qn 44 = v63 := ai_at ev63 (by omega)
            have wv63 : v63 = v56 := av63.symm.trans ((ai_setk P58 (by show (44 : Nat) ≠ v57.toInt.toNat; omega)).trans av56)
            have xv63 : v63.toInt = v56.toInt := by rw [wv63]
            obtain ⟨v64, ev64, tv64⟩ : ∃ v : Int32, Int32.ofInt (1) = v ∧ v.toInt = 1 := ⟨_, rfl, by decide +kernel⟩
            refine lv_iconst hx hb dX10_law_139 ev64 ?_
            refine lv_iadd hx hb dX10_law_140 ?_
            refine lv_topi (fun v65 ev65 => ?_)
            have tv65 := nu_add ev65 (by omega) (by omega)
            have b66 : nowB v62.toNatClampNeg = (0, 8) := nb_44 (by show v62.toInt.toNat = 44; omega)
            have b66 : (nowB v62.toNatClampNeg).1 ≤ v65.toInt ∧ v65.toInt ≤ (nowB v62.toNatClampNeg).2 := by rw [b66]; have := fb_rng v65; show 0 ≤ v65.toInt ∧ v65.toInt ≤ 8; omega
            refine tr_iastx Z.1 Z.2.2.2.1 S58.1 S58.2 hqn tqn rfl (by omega) (by omega) b66.1 b66.2 dX10_law_141 (fun E66 H67 k68 W66 I66 P66 => ?_)
            have S66 : Now D TB cy (va_A (va_pl L E) sz) s L τ E66 H67 k68 := ⟨W66, I66⟩
            have F66 : Fr L τ (inW [(11, 0), (74, 0), (75, 0), (76, 0), (77, 0), (78, 0), (79, 0), (80, 0), (73, 0), (60, 0), (61, 0)]) E E66 := Fr.set F58 P66 tqn rfl
            refine lv_aload_n hx hb dX10_law_142 rfl (lv_at hl31 1 rfl) ?_
            refine tr_getr Z.1 Z.2.2.2.1 S66.1 S66.2 ha0 ta0 rfl rfl (fun _ h => List.mem_cons_of_mem _ (List.mem_append_right _ h)) 0 (by decide) rfl (hts _ (List.mem_of_getElem? (i := 9) rfl)) dX10_law_143 (fun q69 eq69 hq69 tq69 => ?_)
            have tq69 : τ q69 = (60, 0) := tq69
            have uq69 : qn = q69 := S66.2.2.2.2 _ hqn _ hq69 (tqn.trans tq69.symm) (by rw [tqn]; rfl)
            subst uq69
            obtain ⟨v70, ev70, tv70⟩ : ∃ v : Int32, (Int8.ofInt (44)).toInt32 = v ∧ v.toInt = 44 := ⟨_, rfl, by decide +kernel⟩
            refine lv_bipush hx hb dX10_law_146 ev70 ?_
            refine tr_ialdx Z.1 Z.2.2.2.1 S66.1 S66.2 hqn tqn rfl (by omega) (by omega) dX10_law_148 (fun v71 ev71 lv71 uv71 => ?_)
            have bv71 : nowB v70.toNatClampNeg = (0, 8) := nb_44 (by show v70.toInt.toNat = 44; omega)
            rw [bv71] at lv71 uv71
            have lv71 : 0 ≤ v71.toInt := lv71
            have uv71 : v71.toInt ≤ 8 := uv71
            have av71 : ai E66 qn 44 = v71 := ai_at ev71 (by omega)
            have wv71 : v71 = v65 := av71.symm.trans (ai_at P66.2.1 (show v62.toInt = 44 by omega))
            have xv71 : v71.toInt = v65.toInt := by rw [wv71]
            obtain ⟨v72, ev72, tv72⟩ : ∃ v : Int32, Int32.ofInt (1) = v ∧ v.toInt = 1 := ⟨_, rfl, by decide +kernel⟩
            refine lv_iconst hx hb dX10_law_149 ev72 ?_
            refine lv_isub hx hb dX10_law_150 ?_
            refine lv_topi (fun v73 ev73 => ?_)
            have tv73 := nu_sub ev73 (by omega) (by omega)
            rw [← hQ]
            exact en_i Z S66 F66 ⟨(Or.inl ⟨by omega, by omega, by rw [((fi_set (k := 20) P66 (ne_ro ta0 tqn (by decide))).trans ((fi_set (k := 20) P58 (ne_ro ta0 tqn (by decide))).trans ((p46_1 20 (by decide)).trans ((p32_1 20 (by decide)).trans ((fi_put (k := 20) P23 (Or.inr (by decide))).trans ((fi_put (k := 20) P19 (Or.inr (by decide))).trans (fi_at P15)))))))]; omega, ⟨by rw [((fi_set (k := 5) P66 (ne_ro ta0 tqn (by decide))).trans ((fi_set (k := 5) P58 (ne_ro ta0 tqn (by decide))).trans (p46_1 5 (by decide))))]; exact dr_76.1, fun h => absurd (dr_76.1.symm.trans f0_93) h⟩⟩), (fun k hk => ((fi_set P66 (ne_ro ta0 tqn (by decide))).trans ((fi_set P58 (ne_ro ta0 tqn (by decide))).trans ((p46_1 k (fw_sub (by decide) hk)).trans ((p32_1 k (fw_sub (by decide) hk)).trans ((fi_put P23 (Or.inr (fw_ne (by decide) hk))).trans ((fi_put P19 (Or.inr (fw_ne (by decide) hk))).trans ((fi_put P15 (Or.inr (fw_ne (by decide) hk))).trans ((fi_put P11 (Or.inr (fw_ne (by decide) hk))).trans (z8 k hk)))))))))), (Chain.post C50 S66.2 ha0 ta0 hqn tqn hqp tqp ((P66.1 qp (ne_ro tqp tqn (by decide))).trans (P58.1 qp (ne_ro tqp tqn (by decide)))) ((fi_set (k := 2) P66 (ne_ro ta0 tqn (by decide))).trans (fi_set (k := 2) P58 (ne_ro ta0 tqn (by decide)))) (Link.law v56.toInt.toNat (by rw [← B51 44 (by omega) (by omega), av56]; omega) (by rw [show ai E66 qn 44 = v65 from ai_at P66.2.1 (by omega)]; omega) (fun j h1 h2 h3 => ((ai_setk P66 (by show j ≠ v62.toInt.toNat; omega)).trans ((ai_setk P58 (by show j ≠ v57.toInt.toNat; omega)).trans (B51 j (by omega) h2)))))), (SlotOK.same p32_2 S66.2 hql tql hqr tqr hqm tqm hqd tqd ((P66.1 ql (ne_ro tql tqn (by decide))).trans ((P58.1 ql (ne_ro tql tqn (by decide))).trans (G46 ql hql (by rw [tql]; rfl)))) ((P66.1 qr (ne_ro tqr tqn (by decide))).trans ((P58.1 qr (ne_ro tqr tqn (by decide))).trans (G46 qr hqr (by rw [tqr]; rfl)))) ((P66.1 qm (ne_ro tqm tqn (by decide))).trans ((P58.1 qm (ne_ro tqm tqn (by decide))).trans (G46 qm hqm (by rw [tqm]; rfl)))) ((P66.1 qd (ne_ro tqd tqn (by decide))).trans ((P58.1 qd (ne_ro tqd tqn (by decide))).trans (G46 qd hqd (by rw [tqd]; rfl)))))⟩ dX10_law_151
          · skip
            have tc45 := nu_eq c45
            refine lv_aload_n hx hb dX10_law_105 rfl (lv_at hl31 1 rfl) ?_
            obtain ⟨v74, ev74, tv74⟩ : ∃ v : Int32, Int32.ofInt (3) = v ∧ v.toInt = 3 := ⟨_, rfl, by decide +kernel⟩
            refine lv_iconst hx hb dX10_law_106 ev74 ?_
            refine tc_vi Z.1 Z.2.2.2.1 Z.2.2.2.2.1 Z.2.2.2.2.2 S36.1 S36.2 ha0 ta0 rfl rfl (k_X10_no l D cy S36.2 ha0 ta0 v74) (cwV 1 hts gX10_law_X10_no rfl rfl rfl (by decide +kernel) ⟨Nat.le_of_ble_eq_true rfl, Nat.le_of_ble_eq_true rfl⟩) rfl hl31.1 rfl (Nat.le_of_ble_eq_true rfl) dX10_law_107 ⟨Nat.zero_le _, Nat.zero_le _⟩ (fun v78 E75 H76 k77 W75 I75 G75 p75 => ?_)
            obtain ⟨p75_0, p75_1, p75_2⟩ := p75
            have S75 : Now D TB cy (va_A (va_pl L E) sz) s L τ E75 H76 k77 := ⟨W75, I75⟩
            have F75 : Fr L τ (inW [(11, 0), (74, 0), (75, 0), (76, 0), (77, 0), (78, 0), (79, 0), (80, 0), (73, 0), (60, 0), (61, 0)]) E E75 := F32.trans (G75.mono (inW_mono (by decide)))
            rw [← hQ]
            exact en_i Z S75 F75 ⟨(Or.inl ⟨by omega, by omega, by rw [((p75_2 20 (by decide)).trans ((p32_1 20 (by decide)).trans ((fi_put (k := 20) P23 (Or.inr (by decide))).trans ((fi_put (k := 20) P19 (Or.inr (by decide))).trans (fi_at P15)))))]; omega, ⟨by rw [(p75_2 5 (by decide))]; exact dr_76.1, fun h => absurd (dr_76.1.symm.trans f0_93) h⟩⟩), (fun k hk => ((p75_2 k (fw_sub (by decide) hk)).trans ((p32_1 k (fw_sub (by decide) hk)).trans ((fi_put P23 (Or.inr (fw_ne (by decide) hk))).trans ((fi_put P19 (Or.inr (fw_ne (by decide) hk))).trans ((fi_put P15 (Or.inr (fw_ne (by decide) hk))).trans ((fi_put P11 (Or.inr (fw_ne (by decide) hk))).trans (z8 k hk)))))))), (Chain.same z7 S75.2 ha0 ta0 hqn tqn hqp tqp ((G75 qn hqn (by rw [tqn]; rfl)).trans ((G32 qn hqn (by rw [tqn]; rfl)).trans ((P23.1 qn (ne_ro tqn ta0 (by decide))).trans ((P19.1 qn (ne_ro tqn ta0 (by decide))).trans ((P15.1 qn (ne_ro tqn ta0 (by decide))).trans (P11.1 qn (ne_ro tqn ta0 (by decide)))))))) ((G75 qp hqp (by rw [tqp]; rfl)).trans ((G32 qp hqp (by rw [tqp]; rfl)).trans ((P23.1 qp (ne_ro tqp ta0 (by decide))).trans ((P19.1 qp (ne_ro tqp ta0 (by decide))).trans ((P15.1 qp (ne_ro tqp ta0 (by decide))).trans (P11.1 qp (ne_ro tqp ta0 (by decide)))))))) ((p75_2 2 (by decide)).trans ((p32_1 2 (by decide)).trans ((fi_put (k := 2) P23 (Or.inr (by decide))).trans ((fi_put (k := 2) P19 (Or.inr (by decide))).trans ((fi_put (k := 2) P15 (Or.inr (by decide))).trans (fi_put (k := 2) P11 (Or.inr (by decide))))))))), (SlotOK.same p32_2 S75.2 hql tql hqr tqr hqm tqm hqd tqd (G75 ql hql (by rw [tql]; rfl)) (G75 qr hqr (by rw [tqr]; rfl)) (G75 qm hqm (by rw [tqm]; rfl)) (G75 qd hqd (by rw [tqd]; rfl)))⟩ dX10_law_110
        · skip
          have tc40 := nu_ne c40
          have uc40 : (0 : Int32).toInt = 0 := rfl
          refine lv_aload_n hx hb dX10_law_86 rfl (lv_at hl31 1 rfl) ?_
          obtain ⟨v79, ev79, tv79⟩ : ∃ v : Int32, Int32.ofInt (2) = v ∧ v.toInt = 2 := ⟨_, rfl, by decide +kernel⟩
          refine lv_iconst hx hb dX10_law_87 ev79 ?_
          refine tr_puti Z.1 Z.2.2.2.1 S36.1 S36.2 ha0 ta0 rfl rfl (fun _ h => List.mem_cons_of_mem _ (List.mem_append_right _ h)) tyX10_ok nmX10 3 (by decide) rfl rfl rfl (hts _ (List.mem_of_getElem? (i := 8) rfl)) dX10_law_88 (by have := fb_rng v79; omega) (by have := fb_rng v79; omega) (fun E80 H81 k82 W80 I80 P80 => ?_)
          have S80 : Now D TB cy (va_A (va_pl L E) sz) s L τ E80 H81 k82 := ⟨W80, I80⟩
          have F80 : Fr L τ (inW [(11, 0), (74, 0), (75, 0), (76, 0), (77, 0), (78, 0), (79, 0), (80, 0), (73, 0), (60, 0), (61, 0)]) E E80 := Fr.put F32 P80 ta0 rfl
          obtain ⟨v83, ev83, tv83⟩ : ∃ v : Int32, Int32.ofInt (-1) = v ∧ v.toInt = -1 := ⟨_, rfl, by decide +kernel⟩
          refine lv_iconst hx hb dX10_law_91 ev83 ?_
          rw [← hQ]
          exact en_i Z S80 F80 ⟨(Or.inl ⟨by omega, by omega, by rw [((fi_put (k := 20) P80 (Or.inr (by decide))).trans ((p32_1 20 (by decide)).trans ((fi_put (k := 20) P23 (Or.inr (by decide))).trans ((fi_put (k := 20) P19 (Or.inr (by decide))).trans (fi_at P15)))))]; omega, by rw [(fi_put (k := 5) P80 (Or.inr (by decide))), (fi_put (k := 6) P80 (Or.inr (by decide)))]; exact dr_76⟩), (fun k hk => ((fi_put P80 (Or.inr (fw_ne (by decide) hk))).trans ((p32_1 k (fw_sub (by decide) hk)).trans ((fi_put P23 (Or.inr (fw_ne (by decide) hk))).trans ((fi_put P19 (Or.inr (fw_ne (by decide) hk))).trans ((fi_put P15 (Or.inr (fw_ne (by decide) hk))).trans ((fi_put P11 (Or.inr (fw_ne (by decide) hk))).trans (z8 k hk)))))))), (Chain.same z7 S80.2 ha0 ta0 hqn tqn hqp tqp ((P80.1 qn (ne_ro tqn ta0 (by decide))).trans ((G32 qn hqn (by rw [tqn]; rfl)).trans ((P23.1 qn (ne_ro tqn ta0 (by decide))).trans ((P19.1 qn (ne_ro tqn ta0 (by decide))).trans ((P15.1 qn (ne_ro tqn ta0 (by decide))).trans (P11.1 qn (ne_ro tqn ta0 (by decide)))))))) ((P80.1 qp (ne_ro tqp ta0 (by decide))).trans ((G32 qp hqp (by rw [tqp]; rfl)).trans ((P23.1 qp (ne_ro tqp ta0 (by decide))).trans ((P19.1 qp (ne_ro tqp ta0 (by decide))).trans ((P15.1 qp (ne_ro tqp ta0 (by decide))).trans (P11.1 qp (ne_ro tqp ta0 (by decide)))))))) ((fi_put (k := 2) P80 (Or.inr (by decide))).trans ((p32_1 2 (by decide)).trans ((fi_put (k := 2) P23 (Or.inr (by decide))).trans ((fi_put (k := 2) P19 (Or.inr (by decide))).trans ((fi_put (k := 2) P15 (Or.inr (by decide))).trans (fi_put (k := 2) P11 (Or.inr (by decide))))))))), (SlotOK.same p32_2 S80.2 hql tql hqr tqr hqm tqm hqd tqd (P80.1 ql (ne_ro tql ta0 (by decide))) (P80.1 qr (ne_ro tqr ta0 (by decide))) (P80.1 qm (ne_ro tqm ta0 (by decide))) (P80.1 qd (ne_ro tqd ta0 (by decide))))⟩ dX10_law_92
      · skip
        have tc10 := nu_nle c10
        refine lv_aload_n hx hb dX10_law_31 rfl (lv_at hl_26 0 rfl) ?_
        refine tr_getr Z.1 Z.2.2.2.1 S_26.1 S_26.2 ha0 ta0 rfl rfl (fun _ h => List.mem_cons_of_mem _ (List.mem_append_right _ h)) 19 (by decide) rfl (hts _ (List.mem_of_getElem? (i := 3) rfl)) dX10_law_32 (fun q84 eq84 hq84 tq84 => ?_)
        have tq84 : τ q84 = (73, 0) := tq84
        have uq84 : qx = q84 := S_26.2.2.2.2 _ hqx _ hq84 (tqx.trans tq84.symm) (by rw [tqx]; rfl)
        subst uq84
        refine lv_iload_n hx hb dX10_law_35 rfl (lv_at hl_26 2 rfl) ?_
        refine lv_aload_n hx hb dX10_law_36 rfl (lv_at hl_26 0 rfl) ?_
        refine tr_getr Z.1 Z.2.2.2.1 S_26.1 S_26.2 ha0 ta0 rfl rfl (fun _ h => List.mem_cons_of_mem _ (List.mem_append_right _ h)) 18 (by decide) rfl (hts _ (List.mem_of_getElem? (i := 4) rfl)) dX10_law_37 (fun q85 eq85 hq85 tq85 => ?_)
        have tq85 : τ q85 = (72, 0) := tq85
        have uq85 : qv = q85 := S_26.2.2.2.2 _ hqv _ hq85 (tqv.trans tq85.symm) (by rw [tqv]; rfl)
        subst uq85
        refine lv_iload_n hx hb dX10_law_40 rfl (lv_at hl_26 2 rfl) ?_
        refine tr_bald Z.1 Z.2.2.2.1 S_26.1 S_26.2 hqv tqv rfl (by omega) (by omega) dX10_law_41 (fun v86 ev86 lv86 uv86 => ?_)
        refine tr_bast Z.1 Z.2.2.2.1 S_26.1 S_26.2 hqx tqx rfl (by omega) (by omega) dX10_law_42 (fun E87 H88 k89 W87 I87 P87 => ?_)
        have S87 : Now D TB cy (va_A (va_pl L E) sz) s L τ E87 H88 k89 := ⟨W87, I87⟩
        have F87 : Fr L τ (inW [(11, 0), (74, 0), (75, 0), (76, 0), (77, 0), (78, 0), (79, 0), (80, 0), (73, 0), (60, 0), (61, 0)]) E E87 := Fr.set F_26 P87 tqx rfl
        obtain ⟨v90, ev90⟩ : ∃ y : Int32, x2_26 + Int32.ofInt (1) = y := ⟨_, rfl⟩
        have tv90 : v90.toInt = x2_26.toInt + (1) := by rw [← ev90]; exact (fb_addI (by rw [show (Int32.ofInt (1)).toInt = 1 from by decide +kernel]; omega) (by rw [show (Int32.ofInt (1)).toInt = 1 from by decide +kernel]; omega)).trans (by rw [show (Int32.ofInt (1)).toInt = 1 from by decide +kernel])
        refine lv_iinc (v := v90) (lv' := [(2, .int v90), (0, .ref a0), (1, .int a1)]) hx hb dX10_law_43 hl_26 (k := 2) rfl ev90 (by decide) rfl (fun l91 hl92 => ?_)
        refine lv_goto (tgt := 26) hx hb dX10_law_46 (by decide) ?_
        exact ih_26 v90 E87 H88 k89 l91 S87 F87 (by omega) (by omega) (by omega) (by omega) (fun i hi => by rcases Nat.lt_or_ge i x2_26.toInt.toNat with ci | ci; exact ((ai_setk P87 (by show i ≠ x2_26.toInt.toNat; omega)).trans (z5 i ci)); exact (ai_at (n := i) P87.2.1 (by omega)).trans ((nar_id (by omega) (by omega)).trans ((ai_at (n := i) ev86 (by omega)).symm.trans (ai_fr (k := i) F_26 hqv (by rw [tqv]; rfl))))) (SlotOK.same z6 S87.2 hql tql hqr tqr hqm tqm hqd tqd (P87.1 ql (ne_ro tql tqx (by decide))) (P87.1 qr (ne_ro tqr tqx (by decide))) (P87.1 qm (ne_ro tqm tqx (by decide))) (P87.1 qd (ne_ro tqd tqx (by decide)))) (Chain.same z7 S87.2 ha0 ta0 hqn tqn hqp tqp (P87.1 qn (ne_ro tqn tqx (by decide))) (P87.1 qp (ne_ro tqp tqx (by decide))) (fi_set (k := 2) P87 (ne_ro ta0 tqx (by decide)))) (fun k hk => ((fi_set P87 (ne_ro ta0 tqx (by decide))).trans (z8 k hk))) (by rw [((fi_set (k := 20) P87 (ne_ro ta0 tqx (by decide))).trans rfl)]; omega) (by omega) (lv_sub hl92 [1, 2, 0] rfl)
  refine lv_aload_n hx hb dX10_law_0 rfl (lv_at hl 0 rfl) ?_
  obtain ⟨v93, ev93, tv93⟩ : ∃ v : Int32, Int32.ofInt (0) = v ∧ v.toInt = 0 := ⟨_, rfl, by decide +kernel⟩
  refine lv_iconst hx hb dX10_law_1 ev93 ?_
  refine tr_puti Z.1 Z.2.2.2.1 S0.1 S0.2 ha0 ta0 rfl rfl (fun _ h => List.mem_cons_of_mem _ (List.mem_append_right _ h)) tyX10_ok nmX10 4 (by decide) rfl rfl rfl (hts _ (List.mem_of_getElem? (i := 1) rfl)) dX10_law_2 (by omega) (by omega) (fun E94 H95 k96 W94 I94 P94 => ?_)
  have S94 : Now D TB cy (va_A (va_pl L E) sz) s L τ E94 H95 k96 := ⟨W94, I94⟩
  have F94 : Fr L τ (inW [(11, 0), (74, 0), (75, 0), (76, 0), (77, 0), (78, 0), (79, 0), (80, 0), (73, 0), (60, 0), (61, 0)]) E E94 := Fr.put F0_ P94 ta0 rfl
  refine lv_aload_n hx hb dX10_law_5 rfl (lv_at hl 0 rfl) ?_
  refine lv_iload_n hx hb dX10_law_6 rfl (lv_at hl 1 rfl) ?_
  obtain ⟨v97, ev97, tv97⟩ : ∃ v : Int32, Int32.ofInt (0) = v ∧ v.toInt = 0 := ⟨_, rfl, by decide +kernel⟩
  refine lv_iconst hx hb dX10_law_7 ev97 ?_
  refine lv_aload_n hx hb dX10_law_8 rfl (lv_at hl 0 rfl) ?_
  refine tr_geti Z.1 Z.2.2.2.1 S94.1 S94.2 ha0 ta0 rfl rfl (fun _ h => List.mem_cons_of_mem _ (List.mem_append_right _ h)) 20 (by decide) rfl (hts _ (List.mem_of_getElem? (i := 2) rfl)) dX10_law_9 (fun v98 ev98 lv98 uv98 => ?_)
  have wv98 : v98 = (fi E a0 20) := ev98.symm.trans ((fi_put (k := 20) P94 (Or.inr (by decide))).trans rfl)
  have xv98 : v98.toInt = (fi E a0 20).toInt := by rw [wv98]
  refine tc_vi Z.1 Z.2.2.2.1 Z.2.2.2.2.1 Z.2.2.2.2.2 S94.1 S94.2 ha0 ta0 rfl rfl (k_X10_in l D cy S94.2 ha0 ta0 a1 v97 v98) (cwV 3 hts gX10_law_X10_in rfl rfl rfl (by decide +kernel) ⟨Nat.le_of_ble_eq_true rfl, Nat.le_of_ble_eq_true rfl⟩) rfl hl.1 rfl (Nat.le_of_ble_eq_true rfl) dX10_law_12 ⟨Nat.zero_le _, Nat.zero_le _⟩ (fun v102 E99 H100 k101 W99 I99 G99 p99 => ?_)
  obtain ⟨q99, p99_0, p99_1, p99_2⟩ := p99
  have q99 := q99.symm
  subst q99
  have S99 : Now D TB cy (va_A (va_pl L E) sz) s L τ E94 H100 k101 := ⟨W99, I99⟩
  refine lv_if_ne (tgt := 24) hx hb dX10_law_15 (by decide) (fun c103 => ?_) (fun c103 => ?_)
  · skip
    have tc103 := nu_ne c103
    have uc103 : (0 : Int32).toInt = 0 := rfl
    obtain ⟨v104, ev104, tv104⟩ : ∃ v : Int32, Int32.ofInt (0) = v ∧ v.toInt = 0 := ⟨_, rfl, by decide +kernel⟩
    refine lv_iconst hx hb dX10_law_24 ev104 ?_
    refine lv_istore_n (lv' := [(2, .int v104), (0, .ref a0), (1, .int a1)]) hx hb dX10_law_25 rfl hl (by decide) rfl (fun l105 hl106 => ?_)
    exact J26 _ v104 E94 H100 k101 l105 S99 F94 (by omega) (by omega) (by omega) (by omega) (fun i hi => absurd hi (by omega)) (SlotOK.same hS S99.2 hql tql hqr tqr hqm tqm hqd tqd (P94.1 ql (ne_ro tql ta0 (by decide))) (P94.1 qr (ne_ro tqr ta0 (by decide))) (P94.1 qm (ne_ro tqm ta0 (by decide))) (P94.1 qd (ne_ro tqd ta0 (by decide)))) (Chain.same hC S99.2 ha0 ta0 hqn tqn hqp tqp (P94.1 qn (ne_ro tqn ta0 (by decide))) (P94.1 qp (ne_ro tqp ta0 (by decide))) (fi_put (k := 2) P94 (Or.inr (by decide)))) (fun k hk => ((fi_put P94 (Or.inr (fw_ne (by decide) hk))).trans ((fun k hk => rfl) k hk))) (by rw [ev98]; omega) (Nat.lt_succ_self _) (lv_sub hl106 [1, 2, 0] rfl)
  · skip
    have tc103 := nu_eq c103
    have uc103 : (0 : Int32).toInt = 0 := rfl
    refine lv_aload_n hx hb dX10_law_18 rfl (lv_at hl 0 rfl) ?_
    obtain ⟨v107, ev107, tv107⟩ : ∃ v : Int32, Int32.ofInt (1) = v ∧ v.toInt = 1 := ⟨_, rfl, by decide +kernel⟩
    refine lv_iconst hx hb dX10_law_19 ev107 ?_
    refine tc_vi Z.1 Z.2.2.2.1 Z.2.2.2.2.1 Z.2.2.2.2.2 S99.1 S99.2 ha0 ta0 rfl rfl (k_X10_no l D cy S99.2 ha0 ta0 v107) (cwV 1 hts gX10_law_X10_no rfl rfl rfl (by decide +kernel) ⟨Nat.le_of_ble_eq_true rfl, Nat.le_of_ble_eq_true rfl⟩) rfl hl.1 rfl (Nat.le_of_ble_eq_true rfl) dX10_law_20 ⟨Nat.zero_le _, Nat.zero_le _⟩ (fun v111 E108 H109 k110 W108 I108 G108 p108 => ?_)
    obtain ⟨p108_0, p108_1, p108_2⟩ := p108
    have S108 : Now D TB cy (va_A (va_pl L E) sz) s L τ E108 H109 k110 := ⟨W108, I108⟩
    have F108 : Fr L τ (inW [(11, 0), (74, 0), (75, 0), (76, 0), (77, 0), (78, 0), (79, 0), (80, 0), (73, 0), (60, 0), (61, 0)]) E E108 := F94.trans (G108.mono (inW_mono (by decide)))
    rw [← hQ]
    exact en_i Z S108 F108 ⟨(Or.inr ⟨by omega, by rw [((p108_2 20 (by decide)).trans ev98)]; omega, ((p108_2 5 (by decide)).trans (fi_put (k := 5) P94 (Or.inr (by decide)))), fun i => ((ai_fr G108 hqv (by rw [tqv]; rfl)).trans (ai_put P94 (ne_ro tqv ta0 (by decide))))⟩), (fun k hk => ((p108_2 k (fw_sub (by decide) hk)).trans ((fi_put P94 (Or.inr (fw_ne (by decide) hk))).trans ((fun k hk => rfl) k hk)))), (Chain.same hC S108.2 ha0 ta0 hqn tqn hqp tqp ((G108 qn hqn (by rw [tqn]; rfl)).trans (P94.1 qn (ne_ro tqn ta0 (by decide)))) ((G108 qp hqp (by rw [tqp]; rfl)).trans (P94.1 qp (ne_ro tqp ta0 (by decide)))) ((p108_2 2 (by decide)).trans (fi_put (k := 2) P94 (Or.inr (by decide))))), (SlotOK.same hS S108.2 hql tql hqr tqr hqm tqm hqd tqd ((G108 ql hql (by rw [tql]; rfl)).trans (P94.1 ql (ne_ro tql ta0 (by decide)))) ((G108 qr hqr (by rw [tqr]; rfl)).trans (P94.1 qr (ne_ro tqr ta0 (by decide)))) ((G108 qm hqm (by rw [tqm]; rfl)).trans (P94.1 qm (ne_ro tqm ta0 (by decide)))) ((G108 qd hqd (by rw [tqd]; rfl)).trans (P94.1 qd (ne_ro tqd ta0 (by decide)))))⟩ dX10_law_23

