set_option maxHeartbeats 4000000 in
set_option maxRecDepth 100000 in
theorem k_X10_sum_vr (l : Launch) (D : va_G) (cy : Nat → ClassId) {L : List Nat} {τ : Nat → Ro} {E : Ec} (hI : Inv TB cy L τ E) {a0 : Nat} (ha0 : a0 ∈ L) (ta0 : τ a0 = (11, 0)) (a1 : Int32) (la1 : 0 ≤ a1.toInt) (ua1 : a1.toInt ≤ 49) (a2 : Int32) (la2 : 0 ≤ a2.toInt) (ua2 : a2.toInt ≤ 7) {ql : Nat} (hql : ql ∈ L) (tql : τ ql = (75, 0)) {qm : Nat} (hqm : qm ∈ L) (tqm : τ qm = (77, 0)) {qd : Nat} (hqd : qd ∈ L) (tqd : τ qd = (79, 0)) {qx : Nat} (hqx : qx ∈ L) (tqx : τ qx = (73, 0)) (h4 : (fi E a0 5).toInt = 0) : CtV l yX10_sum wsX10_sum { frames := 3, cells := 0, slots := 0, locals := 72 } D TB cy L τ E [.ref a0, .int a1, .int a2] (inW [(11, 0), (75, 0), (77, 0), (78, 0), (79, 0)]) (fun E' => (Grow E E' ql a1.toInt.toNat) ∧ (∀ j : Nat, j ≠ 8 * a1.toInt.toNat + a2.toInt.toNat → ai E' qm j = ai E qm j) ∧ (∀ j : Nat, ¬ (64 * a1.toInt.toNat + 8 * a2.toInt.toNat ≤ j ∧ j < 64 * a1.toInt.toNat + 8 * a2.toInt.toNat + 8) → ai E' qd j = ai E qd j) ∧ ((fi E' a0 5).toInt ≤ 0 → PartOK E' ql qm qd a1.toInt.toNat a2.toInt.toNat) ∧ (Did (fi E' a0 5).toInt (fi E' a0 6).toInt (fi E' a0 22).toInt (sumI (tx E qx a0 21) (fi E a0 21).toInt.toNat (fi E a0 22).toInt.toNat)) ∧ (∀ k : Nat, k ∉ ([5, 6, 22] : List Nat) → fi E' a0 k = fi E a0 k)) := by
  intro sz
  refine sta (cc := cX10_sum) (maxL := 10) hI (by decide) rfl (Nat.le_of_ble_eq_true rfl) (fun p e s m args below meth c ls hsz Z S0 hl => ?_)
  have hx := Z.1.1
  have hb := Z.1.2.1
  have hts := Z.1.2.2.2.2
  have F0_ : Fr L τ (inW [(11, 0), (75, 0), (77, 0), (78, 0), (79, 0)]) E E := Fr.refl
  have hl : lv_has ls 10 [(0, .ref a0), (1, .int a1), (2, .int a2)] := hl
  generalize hQ : MQ below _ args s 0 0 _ = QQ
  have kz_a0_5 := fi_rng (k := 5) hI ha0 ta0 rfl rfl
  have kz_a0_6 := fi_rng (k := 6) hI ha0 ta0 rfl rfl
  have kz_a0_22 := fi_rng (k := 22) hI ha0 ta0 rfl rfl
  have kz_a0_21 := fi_rng (k := 21) hI ha0 ta0 rfl rfl
  have hTr : ∀ p : Nat, -128 ≤ (tx E qx a0 21) p ∧ (tx E qx a0 21) p ≤ 127 := tx_rng hI hqx tqx rfl (by omega)
  have J8 : ∀ (n : Nat) (x3_8 : Int32) (x4_8 : Int32) (x5_8 : Int32) (E_8 : Ec) (H_8 : Heap) (k_8 : List Loc) (l_8 : Array Slot), Now D TB cy (va_A (va_pl L E) sz) s L τ E_8 H_8 k_8 → Fr L τ (inW [(11, 0), (75, 0), (77, 0), (78, 0), (79, 0)]) E E_8 → (0 ≤ a1.toInt) → (a1.toInt ≤ 49) → (0 ≤ a2.toInt) → (a2.toInt ≤ 7) → (0 ≤ x3_8.toInt) → (x3_8.toInt ≤ 8) → (-1 ≤ x4_8.toInt) → (x4_8.toInt ≤ 1) → (0 ≤ x5_8.toInt) → (x5_8.toInt ≤ 1) → (Grow E E_8 ql a1.toInt.toNat) → (E_8 qm = E qm) → (∀ j : Nat, ¬ (64 * a1.toInt.toNat + 8 * a2.toInt.toNat ≤ j ∧ j < 64 * a1.toInt.toNat + 8 * a2.toInt.toNat + 8) → ai E_8 qd j = ai E qd j) → (Parts E_8 ql qd a1.toInt.toNat (64 * a1.toInt.toNat + 8 * a2.toInt.toNat) x3_8 ) → ((x5_8.toInt = 1 ∧ x3_8.toInt ≤ 8 ∧ sumF (tx E qx a0 21) (fi E a0 21).toInt.toNat (9 - x3_8.toInt.toNat) x3_8.toInt.toNat (fi E_8 a0 22).toInt.toNat = (sumI (tx E qx a0 21) (fi E a0 21).toInt.toNat (fi E a0 22).toInt.toNat)) ∨ (x5_8.toInt = 0 ∧ Did 0 (fi E_8 a0 6).toInt (fi E_8 a0 22).toInt (sumI (tx E qx a0 21) (fi E a0 21).toInt.toNat (fi E a0 22).toInt.toNat))) → (∀ k : Nat, k ∉ ([5, 6, 22] : List Nat) → fi E_8 a0 k = fi E a0 k) → (0 ≤ (fi E_8 a0 22).toInt ∧ (fi E_8 a0 22).toInt ≤ 120) → (0 ≤ (fi E_8 a0 21).toInt ∧ (fi E_8 a0 21).toInt ≤ 120 ∧ (fi E_8 a0 21).toInt = (fi E a0 21).toInt) → (0 ≤ (fi E_8 a0 5).toInt ∧ (fi E_8 a0 5).toInt ≤ 0) → (9 - x3_8.toInt + x5_8.toInt).toNat < n → lv_has l_8 10 [(0, .ref a0), (1, .int a1), (2, .int a2), (3, .int x3_8), (4, .int x4_8), (5, .int x5_8)] → W p l e { frames := 3, cells := 0, slots := 0, locals := 72 } s m args below meth c H_8 k_8 0 0 QQ (F0 m 8 l_8 []) := by
    intro n
    induction n with
    | zero => intro x3_8 x4_8 x5_8 E_8 H_8 k_8 l_8 S_8 F_8 z1 z2 z3 z4 z5 z6 z7 z8 z9 z10 z11 z12 z13 z14 z15 z16 z17 z18 z19 hm hl_8; exact absurd hm (Nat.not_lt_zero _)
    | succ n ih =>
      intro x3_8 x4_8 x5_8 E_8 H_8 k_8 l_8 S_8 F_8 z1 z2 z3 z4 z5 z6 z7 z8 z9 z10 z11 z12 z13 z14 z15 z16 z17 z18 z19 hm hl_8
      have ih_8 := ih
      have J178 : ∀ (x8_178 : Int32) (x9_178 : Int32) (E_178 : Ec) (H_178 : Heap) (k_178 : List Loc) (l_178 : Array Slot), Now D TB cy (va_A (va_pl L E) sz) s L τ E_178 H_178 k_178 → Fr L τ (inW [(11, 0), (75, 0), (77, 0), (78, 0), (79, 0)]) E E_178 → (0 ≤ a1.toInt) → (a1.toInt ≤ 49) → (0 ≤ a2.toInt) → (a2.toInt ≤ 7) → (0 ≤ x3_8.toInt) → (x3_8.toInt ≤ 7) → (-1 ≤ x4_8.toInt) → (x4_8.toInt ≤ 1) → (0 ≤ x9_178.toInt) → (x9_178.toInt ≤ 23) → (Grow E E_178 ql a1.toInt.toNat) → (E_178 qm = E qm) → (∀ j : Nat, ¬ (64 * a1.toInt.toNat + 8 * a2.toInt.toNat ≤ j ∧ j < 64 * a1.toInt.toNat + 8 * a2.toInt.toNat + 8) → ai E_178 qd j = ai E qd j) → (Parts E_178 ql qd a1.toInt.toNat (64 * a1.toInt.toNat + 8 * a2.toInt.toNat) x3_8 ) → (15 < x9_178.toInt → (ai E_178 ql a1.toInt.toNat).toInt = 1) → ((fi E_178 a0 5).toInt = 0 ∧ (partI (tx E qx a0 21) (fi E a0 21).toInt.toNat x3_8.toInt.toNat (skI (tx E qx a0 21) (fi E a0 21).toInt.toNat (fi E_8 a0 22).toInt.toNat)).1 = 0 ∧ (fi E_178 a0 22).toInt = (((partI (tx E qx a0 21) (fi E a0 21).toInt.toNat x3_8.toInt.toNat (skI (tx E qx a0 21) (fi E a0 21).toInt.toNat (fi E_8 a0 22).toInt.toNat)).2.2 : Nat) : Int) ∧ x3_8.toInt ≤ 7 ∧ sumF (tx E qx a0 21) (fi E a0 21).toInt.toNat ((8 - x3_8.toInt.toNat) + 1) x3_8.toInt.toNat (fi E_8 a0 22).toInt.toNat = (sumI (tx E qx a0 21) (fi E a0 21).toInt.toNat (fi E a0 22).toInt.toNat) ∧ x5_8.toInt = 1) → (∀ k : Nat, k ∉ ([5, 6, 22] : List Nat) → fi E_178 a0 k = fi E a0 k) → (0 ≤ (fi E_178 a0 5).toInt ∧ (fi E_178 a0 5).toInt ≤ 0) → (0 ≤ (fi E_178 a0 21).toInt ∧ (fi E_178 a0 21).toInt ≤ 120 ∧ (fi E_178 a0 21).toInt = (fi E a0 21).toInt) → (0 ≤ (fi E_178 a0 22).toInt ∧ (fi E_178 a0 22).toInt ≤ 120) → lv_has l_178 10 [(0, .ref a0), (1, .int a1), (2, .int a2), (3, .int x3_8), (4, .int x4_8), (8, .int x8_178), (9, .int x9_178)] → W p l e { frames := 3, cells := 0, slots := 0, locals := 72 } s m args below meth c H_178 k_178 0 0 QQ (F0 m 178 l_178 []) := by
        intro x8_178 x9_178 E_178 H_178 k_178 l_178 S_178 F_178 z20 z21 z22 z23 z24 z25 z26 z27 z28 z29 z30 z31 z32 z33 z34 z35 z36 z37 z38 z39 hl_178
        have r0_178 := z35.2.1
        have k8_178 := z35.2.2.2.1
        have a8s := z35.2.2.2.2.1
        have x5_ := z35.2.2.2.2.2
        refine lv_aload_n hx hb dX10_sum_178 rfl (lv_at hl_178 0 rfl) ?_
        refine tr_getr Z.1 Z.2.2.2.1 S_178.1 S_178.2 ha0 ta0 rfl rfl (fun _ h => List.mem_cons_of_mem _ (List.mem_append_right _ h)) 27 (by decide) rfl (hts _ (List.mem_of_getElem? (i := 2) rfl)) dX10_sum_179 (fun q40 eq40 hq40 tq40 => ?_)
        have tq40 : τ q40 = (78, 0) := tq40
        obtain ⟨v41, ev41, tv41⟩ : ∃ v : Int32, (Int8.ofInt (64)).toInt32 = v ∧ v.toInt = 64 := ⟨_, rfl, by decide +kernel⟩
        refine lv_bipush hx hb dX10_sum_182 ev41 ?_
        refine lv_iload_n hx hb dX10_sum_184 rfl (lv_at hl_178 1 rfl) ?_
        refine lv_imul hx hb dX10_sum_185 ?_
        refine lv_topi (fun v42 ev42 => ?_)
        have tv42 := nu_mulc' (64) ev42 (by omega) (by omega) (by omega)
        obtain ⟨v43, ev43, tv43⟩ : ∃ v : Int32, (Int8.ofInt (8)).toInt32 = v ∧ v.toInt = 8 := ⟨_, rfl, by decide +kernel⟩
        refine lv_bipush hx hb dX10_sum_186 ev43 ?_
        refine lv_iload_n hx hb dX10_sum_188 rfl (lv_at hl_178 2 rfl) ?_
        refine lv_imul hx hb dX10_sum_189 ?_
        refine lv_topi (fun v44 ev44 => ?_)
        have tv44 := nu_mulc' (8) ev44 (by omega) (by omega) (by omega)
        refine lv_iadd hx hb dX10_sum_190 ?_
        refine lv_topi (fun v45 ev45 => ?_)
        have tv45 := nu_add ev45 (by omega) (by omega)
        refine lv_iload_n hx hb dX10_sum_191 rfl (lv_at hl_178 3 rfl) ?_
        refine lv_iadd hx hb dX10_sum_192 ?_
        refine lv_topi (fun v46 ev46 => ?_)
        have tv46 := nu_add ev46 (by omega) (by omega)
        refine lv_iload hx hb dX10_sum_193 (lv_at hl_178 4 rfl) ?_
        refine lv_iload hx hb dX10_sum_195 (lv_at hl_178 5 rfl) ?_
        refine lv_imul hx hb dX10_sum_197 ?_
        refine lv_topi (fun v47 ev47 => ?_)
        refine tr_iast Z.1 Z.2.2.2.1 S_178.1 S_178.2 hq40 tq40 rfl (by omega) (by omega) (by have := fb_rng v47; omega) (by have := fb_rng v47; omega) dX10_sum_198 (fun E48 H49 k50 W48 I48 P48 => ?_)
        have S48 : Now D TB cy (va_A (va_pl L E) sz) s L τ E48 H49 k50 := ⟨W48, I48⟩
        have F48 : Fr L τ (inW [(11, 0), (75, 0), (77, 0), (78, 0), (79, 0)]) E E48 := Fr.set F_178 P48 tq40 rfl
        refine lv_aload_n hx hb dX10_sum_199 rfl (lv_at hl_178 0 rfl) ?_
        refine tr_getr Z.1 Z.2.2.2.1 S48.1 S48.2 ha0 ta0 rfl rfl (fun _ h => List.mem_cons_of_mem _ (List.mem_append_right _ h)) 28 (by decide) rfl (hts _ (List.mem_of_getElem? (i := 3) rfl)) dX10_sum_200 (fun q51 eq51 hq51 tq51 => ?_)
        have tq51 : τ q51 = (79, 0) := tq51
        have uq51 : qd = q51 := S48.2.2.2.2 _ hqd _ hq51 (tqd.trans tq51.symm) (by rw [tqd]; rfl)
        subst uq51
        obtain ⟨v52, ev52, tv52⟩ : ∃ v : Int32, (Int8.ofInt (64)).toInt32 = v ∧ v.toInt = 64 := ⟨_, rfl, by decide +kernel⟩
        refine lv_bipush hx hb dX10_sum_203 ev52 ?_
        refine lv_iload_n hx hb dX10_sum_205 rfl (lv_at hl_178 1 rfl) ?_
        refine lv_imul hx hb dX10_sum_206 ?_
        refine lv_topi (fun v53 ev53 => ?_)
        have tv53 := nu_mulc' (64) ev53 (by omega) (by omega) (by omega)
        obtain ⟨v54, ev54, tv54⟩ : ∃ v : Int32, (Int8.ofInt (8)).toInt32 = v ∧ v.toInt = 8 := ⟨_, rfl, by decide +kernel⟩
        refine lv_bipush hx hb dX10_sum_207 ev54 ?_
        refine lv_iload_n hx hb dX10_sum_209 rfl (lv_at hl_178 2 rfl) ?_
        refine lv_imul hx hb dX10_sum_210 ?_
        refine lv_topi (fun v55 ev55 => ?_)
        have tv55 := nu_mulc' (8) ev55 (by omega) (by omega) (by omega)
        refine lv_iadd hx hb dX10_sum_211 ?_
        refine lv_topi (fun v56 ev56 => ?_)
        have tv56 := nu_add ev56 (by omega) (by omega)
        refine lv_iload_n hx hb dX10_sum_212 rfl (lv_at hl_178 3 rfl) ?_
        refine lv_iadd hx hb dX10_sum_213 ?_
        refine lv_topi (fun v57 ev57 => ?_)
        have tv57 := nu_add ev57 (by omega) (by omega)
        refine lv_iload hx hb dX10_sum_214 (lv_at hl_178 6 rfl) ?_
        refine tr_iast Z.1 Z.2.2.2.1 S48.1 S48.2 hqd tqd rfl (by omega) (by omega) (by omega) (by omega) dX10_sum_216 (fun E58 H59 k60 W58 I58 P58 => ?_)
        have S58 : Now D TB cy (va_A (va_pl L E) sz) s L τ E58 H59 k60 := ⟨W58, I58⟩
        have F58 : Fr L τ (inW [(11, 0), (75, 0), (77, 0), (78, 0), (79, 0)]) E E58 := Fr.set F48 P58 tqd rfl
        obtain ⟨v61, ev61⟩ : ∃ y : Int32, x3_8 + Int32.ofInt (1) = y := ⟨_, rfl⟩
        have tv61 : v61.toInt = x3_8.toInt + (1) := by rw [← ev61]; exact (fb_addI (by rw [show (Int32.ofInt (1)).toInt = 1 from by decide +kernel]; omega) (by rw [show (Int32.ofInt (1)).toInt = 1 from by decide +kernel]; omega)).trans (by rw [show (Int32.ofInt (1)).toInt = 1 from by decide +kernel])
        refine lv_iinc (v := v61) (lv' := [(3, .int v61), (0, .ref a0), (1, .int a1), (2, .int a2), (4, .int x4_8), (8, .int x8_178), (9, .int x9_178)]) hx hb dX10_sum_217 hl_178 (k := 3) rfl ev61 (by decide) rfl (fun l62 hl63 => ?_)
        refine lv_aload_n hx hb dX10_sum_220 rfl (lv_at hl63 1 rfl) ?_
        have fe_221a : fi E58 a0 21 = fi E a0 21 := (((fi_set (k := 21) P58 (ne_ro ta0 tqd (by decide))).trans (fi_set (k := 21) P48 (ne_ro ta0 tq40 (by decide)))).trans (z36 21 (by decide)))
        have tq_221a : tx E58 qx a0 21 = (tx E qx a0 21) := tx_same (F58 qx hqx (by rw [tqx]; rfl)) fe_221a
        have po_221a : (fi E58 a0 22).toInt = (((partI (tx E qx a0 21) (fi E a0 21).toInt.toNat x3_8.toInt.toNat (skI (tx E qx a0 21) (fi E a0 21).toInt.toNat (fi E_8 a0 22).toInt.toNat)).2.2 : Nat) : Int) := by rw [((fi_set (k := 22) P58 (ne_ro ta0 tqd (by decide))).trans (fi_set (k := 22) P48 (ne_ro ta0 tq40 (by decide))))]; exact z35.2.2.1
        refine tc_vv Z.1 Z.2.2.2.1 Z.2.2.2.2.1 Z.2.2.2.2.2 S58.1 S58.2 ha0 ta0 rfl rfl (k_X10_blanks_vr l D cy S58.2 ha0 ta0 hqx tqx) (cwV 0 hts gX10_sum_X10_blanks rfl rfl rfl (by decide +kernel) ⟨Nat.le_of_ble_eq_true rfl, Nat.le_of_ble_eq_true rfl⟩) rfl hl63.1 rfl (Nat.le_of_ble_eq_true rfl) dX10_sum_221 ⟨Nat.zero_le _, Nat.zero_le _⟩ (fun E64 H65 k66 W64 I64 G64 p64 => ?_)
        obtain ⟨p64_0, p64_1⟩ := p64
        have S64 : Now D TB cy (va_A (va_pl L E) sz) s L τ E64 H65 k66 := ⟨W64, I64⟩
        have F64 : Fr L τ (inW [(11, 0), (75, 0), (77, 0), (78, 0), (79, 0)]) E E64 := F58.trans (G64.mono (inW_mono (by decide)))
        have po_221 : (fi E64 a0 22).toInt = (((skI (tx E qx a0 21) (fi E a0 21).toInt.toNat (partI (tx E qx a0 21) (fi E a0 21).toInt.toNat x3_8.toInt.toNat (skI (tx E qx a0 21) (fi E a0 21).toInt.toNat (fi E_8 a0 22).toInt.toNat)).2.2) : Nat) : Int) := by have q := p64_0; rw [tq_221a, fe_221a, show (fi E58 a0 22).toInt.toNat = (partI (tx E qx a0 21) (fi E a0 21).toInt.toNat x3_8.toInt.toNat (skI (tx E qx a0 21) (fi E a0 21).toInt.toNat (fi E_8 a0 22).toInt.toNat)).2.2 from by omega] at q; exact q
        have kp_221 := fi_rng (k := 22) S64.2 ha0 ta0 rfl rfl
        refine lv_aload_n hx hb dX10_sum_224 rfl (lv_at hl63 1 rfl) ?_
        have fe_225a : fi E64 a0 21 = fi E a0 21 := (((p64_1 21 (by decide)).trans ((fi_set (k := 21) P58 (ne_ro ta0 tqd (by decide))).trans (fi_set (k := 21) P48 (ne_ro ta0 tq40 (by decide))))).trans (z36 21 (by decide)))
        have tq_225a : tx E64 qx a0 21 = (tx E qx a0 21) := tx_same (F64 qx hqx (by rw [tqx]; rfl)) fe_225a
        have po_225a : (fi E64 a0 22).toInt = (((skI (tx E qx a0 21) (fi E a0 21).toInt.toNat (partI (tx E qx a0 21) (fi E a0 21).toInt.toNat x3_8.toInt.toNat (skI (tx E qx a0 21) (fi E a0 21).toInt.toNat (fi E_8 a0 22).toInt.toNat)).2.2) : Nat) : Int) := po_221
        refine tc_vi Z.1 Z.2.2.2.1 Z.2.2.2.2.1 Z.2.2.2.2.2 S64.1 S64.2 ha0 ta0 rfl rfl (k_X10_look_vr l D cy S64.2 ha0 ta0 hqx tqx) (cwV 0 hts gX10_sum_X10_look rfl rfl rfl (by decide +kernel) ⟨Nat.le_of_ble_eq_true rfl, Nat.le_of_ble_eq_true rfl⟩) rfl hl63.1 rfl (Nat.le_of_ble_eq_true rfl) dX10_sum_225 ⟨Nat.zero_le _, Nat.zero_le _⟩ (fun v71 E68 H69 k70 W68 I68 G68 p68 => ?_)
        obtain ⟨q68, p68_0, p68_1, p68_2, p68_3⟩ := p68
        have q68 := q68.symm
        subst q68
        have S68 : Now D TB cy (va_A (va_pl L E) sz) s L τ E64 H69 k70 := ⟨W68, I68⟩
        have pk_225 : v71.toInt = pkI (tx E qx a0 21) (fi E a0 21).toInt.toNat (skI (tx E qx a0 21) (fi E a0 21).toInt.toNat (partI (tx E qx a0 21) (fi E a0 21).toInt.toNat x3_8.toInt.toNat (skI (tx E qx a0 21) (fi E a0 21).toInt.toNat (fi E_8 a0 22).toInt.toNat)).2.2) := by have q := p68_1; rw [tq_225a, fe_225a, show (fi E64 a0 22).toInt.toNat = (skI (tx E qx a0 21) (fi E a0 21).toInt.toNat (partI (tx E qx a0 21) (fi E a0 21).toInt.toNat x3_8.toInt.toNat (skI (tx E qx a0 21) (fi E a0 21).toInt.toNat (fi E_8 a0 22).toInt.toNat)).2.2) from by omega] at q; exact q
        obtain ⟨v72, ev72, tv72⟩ : ∃ v : Int32, (Int8.ofInt (43)).toInt32 = v ∧ v.toInt = 43 := ⟨_, rfl, by decide +kernel⟩
        refine lv_bipush hx hb dX10_sum_228 ev72 ?_
        refine lv_icmp_eq (tgt := 242) hx hb dX10_sum_230 (by decide) (fun c73 => ?_) (fun c73 => ?_)
        · skip
          have tc73 := nu_eq c73
          obtain ⟨v74, ev74, tv74⟩ : ∃ v : Int32, Int32.ofInt (1) = v ∧ v.toInt = 1 := ⟨_, rfl, by decide +kernel⟩
          refine lv_iconst hx hb dX10_sum_242 ev74 ?_
          refine lv_goto (tgt := 247) hx hb dX10_sum_243 (by decide) ?_
          refine lv_istore (lv' := [(5, .int v74), (3, .int v61), (0, .ref a0), (1, .int a1), (2, .int a2), (4, .int x4_8), (8, .int x8_178), (9, .int x9_178)]) hx hb dX10_sum_247 hl63 (by decide) rfl (fun l75 hl76 => ?_)
          refine lv_aload_n hx hb dX10_sum_249 rfl (lv_at hl76 2 rfl) ?_
          have fe_250a : fi E64 a0 21 = fi E a0 21 := (((p64_1 21 (by decide)).trans ((fi_set (k := 21) P58 (ne_ro ta0 tqd (by decide))).trans (fi_set (k := 21) P48 (ne_ro ta0 tq40 (by decide))))).trans (z36 21 (by decide)))
          have tq_250a : tx E64 qx a0 21 = (tx E qx a0 21) := tx_same (F64 qx hqx (by rw [tqx]; rfl)) fe_250a
          have po_250a : (fi E64 a0 22).toInt = (((skI (tx E qx a0 21) (fi E a0 21).toInt.toNat (partI (tx E qx a0 21) (fi E a0 21).toInt.toNat x3_8.toInt.toNat (skI (tx E qx a0 21) (fi E a0 21).toInt.toNat (fi E_8 a0 22).toInt.toNat)).2.2) : Nat) : Int) := po_221
          refine tc_vi Z.1 Z.2.2.2.1 Z.2.2.2.2.1 Z.2.2.2.2.2 S68.1 S68.2 ha0 ta0 rfl rfl (k_X10_look_vr l D cy S68.2 ha0 ta0 hqx tqx) (cwV 0 hts gX10_sum_X10_look rfl rfl rfl (by decide +kernel) ⟨Nat.le_of_ble_eq_true rfl, Nat.le_of_ble_eq_true rfl⟩) rfl hl76.1 rfl (Nat.le_of_ble_eq_true rfl) dX10_sum_250 ⟨Nat.zero_le _, Nat.zero_le _⟩ (fun v80 E77 H78 k79 W77 I77 G77 p77 => ?_)
          obtain ⟨q77, p77_0, p77_1, p77_2, p77_3⟩ := p77
          have q77 := q77.symm
          subst q77
          have S77 : Now D TB cy (va_A (va_pl L E) sz) s L τ E64 H78 k79 := ⟨W77, I77⟩
          have pk_250 : v80.toInt = pkI (tx E qx a0 21) (fi E a0 21).toInt.toNat (skI (tx E qx a0 21) (fi E a0 21).toInt.toNat (partI (tx E qx a0 21) (fi E a0 21).toInt.toNat x3_8.toInt.toNat (skI (tx E qx a0 21) (fi E a0 21).toInt.toNat (fi E_8 a0 22).toInt.toNat)).2.2) := by have q := p77_1; rw [tq_250a, fe_250a, show (fi E64 a0 22).toInt.toNat = (skI (tx E qx a0 21) (fi E a0 21).toInt.toNat (partI (tx E qx a0 21) (fi E a0 21).toInt.toNat x3_8.toInt.toNat (skI (tx E qx a0 21) (fi E a0 21).toInt.toNat (fi E_8 a0 22).toInt.toNat)).2.2) from by omega] at q; exact q
          obtain ⟨v81, ev81, tv81⟩ : ∃ v : Int32, (Int8.ofInt (45)).toInt32 = v ∧ v.toInt = 45 := ⟨_, rfl, by decide +kernel⟩
          refine lv_bipush hx hb dX10_sum_253 ev81 ?_
          refine lv_icmp_ne (tgt := 262) hx hb dX10_sum_255 (by decide) (fun c82 => ?_) (fun c82 => ?_)
          · skip
            have tc82 := nu_ne c82
            obtain ⟨v83, ev83, tv83⟩ : ∃ v : Int32, Int32.ofInt (1) = v ∧ v.toInt = 1 := ⟨_, rfl, by decide +kernel⟩
            refine lv_iconst hx hb dX10_sum_262 ev83 ?_
            refine lv_istore (lv' := [(4, .int v83), (5, .int v74), (3, .int v61), (0, .ref a0), (1, .int a1), (2, .int a2), (8, .int x8_178), (9, .int x9_178)]) hx hb dX10_sum_263 hl76 (by decide) rfl (fun l84 hl85 => ?_)
            refine lv_iload hx hb dX10_sum_265 (lv_at hl85 1 rfl) ?_
            refine lv_if_eq (tgt := 280) hx hb dX10_sum_267 (by decide) (fun c86 => ?_) (fun c86 => ?_)
            · skip
              have tc86 := nu_eq c86
              have uc86 : (0 : Int32).toInt = 0 := rfl
              omega
            · skip
              have tc86 := nu_ne c86
              have uc86 : (0 : Int32).toInt = 0 := rfl
              refine lv_aload_n hx hb dX10_sum_270 rfl (lv_at hl85 3 rfl) ?_
              refine lv_dup hx hb dX10_sum_271 rfl ?_
              refine tr_geti Z.1 Z.2.2.2.1 S77.1 S77.2 ha0 ta0 rfl rfl (fun _ h => List.mem_cons_of_mem _ (List.mem_append_right _ h)) 22 (by decide) rfl (hts _ (List.mem_of_getElem? (i := 1) rfl)) dX10_sum_272 (fun v87 ev87 lv87 uv87 => ?_)
              have wv87 : v87 = (fi E64 a0 22) := ev87.symm.trans rfl
              have xv87 : v87.toInt = (fi E64 a0 22).toInt := by rw [wv87]
              obtain ⟨v88, ev88, tv88⟩ : ∃ v : Int32, Int32.ofInt (1) = v ∧ v.toInt = 1 := ⟨_, rfl, by decide +kernel⟩
              refine lv_iconst hx hb dX10_sum_275 ev88 ?_
              refine lv_iadd hx hb dX10_sum_276 ?_
              refine lv_topi (fun v89 ev89 => ?_)
              have tv89 := nu_add ev89 (by omega) (by omega)
              refine tr_puti Z.1 Z.2.2.2.1 S77.1 S77.2 ha0 ta0 rfl rfl (fun _ h => List.mem_cons_of_mem _ (List.mem_append_right _ h)) tyX10_ok nmX10 22 (by decide) rfl rfl rfl (hts _ (List.mem_of_getElem? (i := 1) rfl)) dX10_sum_277 (by omega) (by omega) (fun E90 H91 k92 W90 I90 P90 => ?_)
              have S90 : Now D TB cy (va_A (va_pl L E) sz) s L τ E90 H91 k92 := ⟨W90, I90⟩
              have F90 : Fr L τ (inW [(11, 0), (75, 0), (77, 0), (78, 0), (79, 0)]) E E90 := Fr.put F64 P90 ta0 rfl
              have po_277 : (fi E90 a0 22).toInt = ((((skI (tx E qx a0 21) (fi E a0 21).toInt.toNat (partI (tx E qx a0 21) (fi E a0 21).toInt.toNat x3_8.toInt.toNat (skI (tx E qx a0 21) (fi E a0 21).toInt.toNat (fi E_8 a0 22).toInt.toNat)).2.2) + 1) : Nat) : Int) := by have q : (fi E64 a0 22).toInt = (((skI (tx E qx a0 21) (fi E a0 21).toInt.toNat (partI (tx E qx a0 21) (fi E a0 21).toInt.toNat x3_8.toInt.toNat (skI (tx E qx a0 21) (fi E a0 21).toInt.toNat (fi E_8 a0 22).toInt.toNat)).2.2) : Nat) : Int) := po_221; rw [(fi_at P90)]; omega
              refine lv_goto (tgt := 8) hx hb dX10_sum_280 (by decide) ?_
              exact ih_8 v61 v83 v74 E90 H91 k92 l84 S90 F90 (by have := fb_rng x8_178; omega) (by have := fb_rng x8_178; omega) (by have := fb_rng x8_178; omega) (by have := fb_rng x8_178; omega) (by have := fb_rng x8_178; omega) (by have := fb_rng x8_178; omega) (by have := fb_rng x8_178; omega) (by have := fb_rng x8_178; omega) (by have := fb_rng x8_178; omega) (by have := fb_rng x8_178; omega) ((((z30.cell (P48.1 ql (ne_ro tql tq40 (by decide)))).cell (P58.1 ql (ne_ro tql tqd (by decide)))).cell (G64 ql hql (by rw [tql]; rfl))).cell (P90.1 ql (ne_ro tql ta0 (by decide)))) (((P90.1 qm (ne_ro tqm ta0 (by decide))).trans ((G64 qm hqm (by rw [tqm]; rfl)).trans ((P58.1 qm (ne_ro tqm tqd (by decide))).trans (P48.1 qm (ne_ro tqm tq40 (by decide)))))).trans z31) (fun j hj => ((ai_put P90 (ne_ro tqd ta0 (by decide))).trans ((ai_fr G64 hqd (by rw [tqd]; rfl)).trans ((ai_setk P58 (by show j ≠ v57.toInt.toNat; omega)).trans ((ai_set P48 (ne_ro tqd tq40 (by decide))).trans (z32 j hj)))))) ((Parts.set (z33.keep ((Grow.refl (s := a1.toInt.toNat)).cell (P48.1 ql (ne_ro tql tq40 (by decide)))) (P48.1 qd (ne_ro tqd tq40 (by decide)))) (fun h => (((Grow.refl (s := a1.toInt.toNat)).cell (P48.1 ql (ne_ro tql tq40 (by decide))))).one (z34 h)) P58 (by omega) (by omega) (by omega) (ne_ro tql tqd (by decide))).keep (((Grow.refl (s := a1.toInt.toNat)).cell (G64 ql hql (by rw [tql]; rfl))).cell (P90.1 ql (ne_ro tql ta0 (by decide)))) ((P90.1 qd (ne_ro tqd ta0 (by decide))).trans (G64 qd hqd (by rw [tqd]; rfl)))) (Or.inl ⟨by omega, by omega, by rw [show (fi E90 a0 22).toInt.toNat = skI (tx E qx a0 21) (fi E a0 21).toInt.toNat (partI (tx E qx a0 21) (fi E a0 21).toInt.toNat x3_8.toInt.toNat (skI (tx E qx a0 21) (fi E a0 21).toInt.toNat (fi E_8 a0 22).toInt.toNat)).2.2 + 1 from by have q := po_277; omega, show 9 - v61.toInt.toNat = 8 - x3_8.toInt.toNat from by omega, show v61.toInt.toNat = x3_8.toInt.toNat + 1 from by omega, ← a8s, sum_go (fun z => z r0_178) (by rw [← pk_225]; omega)]⟩) (fun k hk => ((fi_put P90 (Or.inr (fw_ne (by decide) hk))).trans ((p64_1 k (fw_sub (by decide) hk)).trans ((fi_set P58 (ne_ro ta0 tqd (by decide))).trans ((fi_set P48 (ne_ro ta0 tq40 (by decide))).trans (z36 k hk)))))) (by rw [(fi_at P90)]; have := fb_rng x8_178; omega) (by rw [((fi_put (k := 21) P90 (Or.inr (by decide))).trans ((p64_1 21 (by decide)).trans ((fi_set (k := 21) P58 (ne_ro ta0 tqd (by decide))).trans ((fi_set (k := 21) P48 (ne_ro ta0 tq40 (by decide))).trans rfl))))]; have := fb_rng x8_178; omega) (by rw [((fi_put (k := 5) P90 (Or.inr (by decide))).trans ((p64_1 5 (by decide)).trans ((fi_set (k := 5) P58 (ne_ro ta0 tqd (by decide))).trans ((fi_set (k := 5) P48 (ne_ro ta0 tq40 (by decide))).trans rfl))))]; have := fb_rng x8_178; omega) (by omega) (lv_sub hl85 [3, 4, 5, 2, 0, 1] rfl)
          · skip
            have tc82 := nu_eq c82
            obtain ⟨v93, ev93, tv93⟩ : ∃ v : Int32, Int32.ofInt (-1) = v ∧ v.toInt = -1 := ⟨_, rfl, by decide +kernel⟩
            refine lv_iconst hx hb dX10_sum_258 ev93 ?_
            refine lv_goto (tgt := 263) hx hb dX10_sum_259 (by decide) ?_
            refine lv_istore (lv' := [(4, .int v93), (5, .int v74), (3, .int v61), (0, .ref a0), (1, .int a1), (2, .int a2), (8, .int x8_178), (9, .int x9_178)]) hx hb dX10_sum_263 hl76 (by decide) rfl (fun l94 hl95 => ?_)
            refine lv_iload hx hb dX10_sum_265 (lv_at hl95 1 rfl) ?_
            refine lv_if_eq (tgt := 280) hx hb dX10_sum_267 (by decide) (fun c96 => ?_) (fun c96 => ?_)
            · skip
              have tc96 := nu_eq c96
              have uc96 : (0 : Int32).toInt = 0 := rfl
              omega
            · skip
              have tc96 := nu_ne c96
              have uc96 : (0 : Int32).toInt = 0 := rfl
              refine lv_aload_n hx hb dX10_sum_270 rfl (lv_at hl95 3 rfl) ?_
              refine lv_dup hx hb dX10_sum_271 rfl ?_
              refine tr_geti Z.1 Z.2.2.2.1 S77.1 S77.2 ha0 ta0 rfl rfl (fun _ h => List.mem_cons_of_mem _ (List.mem_append_right _ h)) 22 (by decide) rfl (hts _ (List.mem_of_getElem? (i := 1) rfl)) dX10_sum_272 (fun v97 ev97 lv97 uv97 => ?_)
              have wv97 : v97 = (fi E64 a0 22) := ev97.symm.trans rfl
              have xv97 : v97.toInt = (fi E64 a0 22).toInt := by rw [wv97]
              obtain ⟨v98, ev98, tv98⟩ : ∃ v : Int32, Int32.ofInt (1) = v ∧ v.toInt = 1 := ⟨_, rfl, by decide +kernel⟩
              refine lv_iconst hx hb dX10_sum_275 ev98 ?_
              refine lv_iadd hx hb dX10_sum_276 ?_
              refine lv_topi (fun v99 ev99 => ?_)
              have tv99 := nu_add ev99 (by omega) (by omega)
              refine tr_puti Z.1 Z.2.2.2.1 S77.1 S77.2 ha0 ta0 rfl rfl (fun _ h => List.mem_cons_of_mem _ (List.mem_append_right _ h)) tyX10_ok nmX10 22 (by decide) rfl rfl rfl (hts _ (List.mem_of_getElem? (i := 1) rfl)) dX10_sum_277 (by omega) (by omega) (fun E100 H101 k102 W100 I100 P100 => ?_)
              have S100 : Now D TB cy (va_A (va_pl L E) sz) s L τ E100 H101 k102 := ⟨W100, I100⟩
              have F100 : Fr L τ (inW [(11, 0), (75, 0), (77, 0), (78, 0), (79, 0)]) E E100 := Fr.put F64 P100 ta0 rfl
              have po_277 : (fi E100 a0 22).toInt = ((((skI (tx E qx a0 21) (fi E a0 21).toInt.toNat (partI (tx E qx a0 21) (fi E a0 21).toInt.toNat x3_8.toInt.toNat (skI (tx E qx a0 21) (fi E a0 21).toInt.toNat (fi E_8 a0 22).toInt.toNat)).2.2) + 1) : Nat) : Int) := by have q : (fi E64 a0 22).toInt = (((skI (tx E qx a0 21) (fi E a0 21).toInt.toNat (partI (tx E qx a0 21) (fi E a0 21).toInt.toNat x3_8.toInt.toNat (skI (tx E qx a0 21) (fi E a0 21).toInt.toNat (fi E_8 a0 22).toInt.toNat)).2.2) : Nat) : Int) := po_221; rw [(fi_at P100)]; omega
              refine lv_goto (tgt := 8) hx hb dX10_sum_280 (by decide) ?_
              exact ih_8 v61 v93 v74 E100 H101 k102 l94 S100 F100 (by have := fb_rng x8_178; omega) (by have := fb_rng x8_178; omega) (by have := fb_rng x8_178; omega) (by have := fb_rng x8_178; omega) (by have := fb_rng x8_178; omega) (by have := fb_rng x8_178; omega) (by have := fb_rng x8_178; omega) (by have := fb_rng x8_178; omega) (by have := fb_rng x8_178; omega) (by have := fb_rng x8_178; omega) ((((z30.cell (P48.1 ql (ne_ro tql tq40 (by decide)))).cell (P58.1 ql (ne_ro tql tqd (by decide)))).cell (G64 ql hql (by rw [tql]; rfl))).cell (P100.1 ql (ne_ro tql ta0 (by decide)))) (((P100.1 qm (ne_ro tqm ta0 (by decide))).trans ((G64 qm hqm (by rw [tqm]; rfl)).trans ((P58.1 qm (ne_ro tqm tqd (by decide))).trans (P48.1 qm (ne_ro tqm tq40 (by decide)))))).trans z31) (fun j hj => ((ai_put P100 (ne_ro tqd ta0 (by decide))).trans ((ai_fr G64 hqd (by rw [tqd]; rfl)).trans ((ai_setk P58 (by show j ≠ v57.toInt.toNat; omega)).trans ((ai_set P48 (ne_ro tqd tq40 (by decide))).trans (z32 j hj)))))) ((Parts.set (z33.keep ((Grow.refl (s := a1.toInt.toNat)).cell (P48.1 ql (ne_ro tql tq40 (by decide)))) (P48.1 qd (ne_ro tqd tq40 (by decide)))) (fun h => (((Grow.refl (s := a1.toInt.toNat)).cell (P48.1 ql (ne_ro tql tq40 (by decide))))).one (z34 h)) P58 (by omega) (by omega) (by omega) (ne_ro tql tqd (by decide))).keep (((Grow.refl (s := a1.toInt.toNat)).cell (G64 ql hql (by rw [tql]; rfl))).cell (P100.1 ql (ne_ro tql ta0 (by decide)))) ((P100.1 qd (ne_ro tqd ta0 (by decide))).trans (G64 qd hqd (by rw [tqd]; rfl)))) (Or.inl ⟨by omega, by omega, by rw [show (fi E100 a0 22).toInt.toNat = skI (tx E qx a0 21) (fi E a0 21).toInt.toNat (partI (tx E qx a0 21) (fi E a0 21).toInt.toNat x3_8.toInt.toNat (skI (tx E qx a0 21) (fi E a0 21).toInt.toNat (fi E_8 a0 22).toInt.toNat)).2.2 + 1 from by have q := po_277; omega, show 9 - v61.toInt.toNat = 8 - x3_8.toInt.toNat from by omega, show v61.toInt.toNat = x3_8.toInt.toNat + 1 from by omega, ← a8s, sum_go (fun z => z r0_178) (by rw [← pk_225]; omega)]⟩) (fun k hk => ((fi_put P100 (Or.inr (fw_ne (by decide) hk))).trans ((p64_1 k (fw_sub (by decide) hk)).trans ((fi_set P58 (ne_ro ta0 tqd (by decide))).trans ((fi_set P48 (ne_ro ta0 tq40 (by decide))).trans (z36 k hk)))))) (by rw [(fi_at P100)]; have := fb_rng x8_178; omega) (by rw [((fi_put (k := 21) P100 (Or.inr (by decide))).trans ((p64_1 21 (by decide)).trans ((fi_set (k := 21) P58 (ne_ro ta0 tqd (by decide))).trans ((fi_set (k := 21) P48 (ne_ro ta0 tq40 (by decide))).trans rfl))))]; have := fb_rng x8_178; omega) (by rw [((fi_put (k := 5) P100 (Or.inr (by decide))).trans ((p64_1 5 (by decide)).trans ((fi_set (k := 5) P58 (ne_ro ta0 tqd (by decide))).trans ((fi_set (k := 5) P48 (ne_ro ta0 tq40 (by decide))).trans rfl))))]; have := fb_rng x8_178; omega) (by omega) (lv_sub hl95 [3, 4, 5, 2, 0, 1] rfl)
        · skip
          have tc73 := nu_ne c73
          refine lv_aload_n hx hb dX10_sum_233 rfl (lv_at hl63 1 rfl) ?_
          have fe_234a : fi E64 a0 21 = fi E a0 21 := (((p64_1 21 (by decide)).trans ((fi_set (k := 21) P58 (ne_ro ta0 tqd (by decide))).trans (fi_set (k := 21) P48 (ne_ro ta0 tq40 (by decide))))).trans (z36 21 (by decide)))
          have tq_234a : tx E64 qx a0 21 = (tx E qx a0 21) := tx_same (F64 qx hqx (by rw [tqx]; rfl)) fe_234a
          have po_234a : (fi E64 a0 22).toInt = (((skI (tx E qx a0 21) (fi E a0 21).toInt.toNat (partI (tx E qx a0 21) (fi E a0 21).toInt.toNat x3_8.toInt.toNat (skI (tx E qx a0 21) (fi E a0 21).toInt.toNat (fi E_8 a0 22).toInt.toNat)).2.2) : Nat) : Int) := po_221
          refine tc_vi Z.1 Z.2.2.2.1 Z.2.2.2.2.1 Z.2.2.2.2.2 S68.1 S68.2 ha0 ta0 rfl rfl (k_X10_look_vr l D cy S68.2 ha0 ta0 hqx tqx) (cwV 0 hts gX10_sum_X10_look rfl rfl rfl (by decide +kernel) ⟨Nat.le_of_ble_eq_true rfl, Nat.le_of_ble_eq_true rfl⟩) rfl hl63.1 rfl (Nat.le_of_ble_eq_true rfl) dX10_sum_234 ⟨Nat.zero_le _, Nat.zero_le _⟩ (fun v106 E103 H104 k105 W103 I103 G103 p103 => ?_)
          obtain ⟨q103, p103_0, p103_1, p103_2, p103_3⟩ := p103
          have q103 := q103.symm
          subst q103
          have S103 : Now D TB cy (va_A (va_pl L E) sz) s L τ E64 H104 k105 := ⟨W103, I103⟩
          have pk_234 : v106.toInt = pkI (tx E qx a0 21) (fi E a0 21).toInt.toNat (skI (tx E qx a0 21) (fi E a0 21).toInt.toNat (partI (tx E qx a0 21) (fi E a0 21).toInt.toNat x3_8.toInt.toNat (skI (tx E qx a0 21) (fi E a0 21).toInt.toNat (fi E_8 a0 22).toInt.toNat)).2.2) := by have q := p103_1; rw [tq_234a, fe_234a, show (fi E64 a0 22).toInt.toNat = (skI (tx E qx a0 21) (fi E a0 21).toInt.toNat (partI (tx E qx a0 21) (fi E a0 21).toInt.toNat x3_8.toInt.toNat (skI (tx E qx a0 21) (fi E a0 21).toInt.toNat (fi E_8 a0 22).toInt.toNat)).2.2) from by omega] at q; exact q
          obtain ⟨v107, ev107, tv107⟩ : ∃ v : Int32, (Int8.ofInt (45)).toInt32 = v ∧ v.toInt = 45 := ⟨_, rfl, by decide +kernel⟩
          refine lv_bipush hx hb dX10_sum_237 ev107 ?_
          refine lv_icmp_ne (tgt := 246) hx hb dX10_sum_239 (by decide) (fun c108 => ?_) (fun c108 => ?_)
          · skip
            have tc108 := nu_ne c108
            obtain ⟨v109, ev109, tv109⟩ : ∃ v : Int32, Int32.ofInt (0) = v ∧ v.toInt = 0 := ⟨_, rfl, by decide +kernel⟩
            refine lv_iconst hx hb dX10_sum_246 ev109 ?_
            refine lv_istore (lv' := [(5, .int v109), (3, .int v61), (0, .ref a0), (1, .int a1), (2, .int a2), (4, .int x4_8), (8, .int x8_178), (9, .int x9_178)]) hx hb dX10_sum_247 hl63 (by decide) rfl (fun l110 hl111 => ?_)
            refine lv_aload_n hx hb dX10_sum_249 rfl (lv_at hl111 2 rfl) ?_
            have fe_250a : fi E64 a0 21 = fi E a0 21 := (((p64_1 21 (by decide)).trans ((fi_set (k := 21) P58 (ne_ro ta0 tqd (by decide))).trans (fi_set (k := 21) P48 (ne_ro ta0 tq40 (by decide))))).trans (z36 21 (by decide)))
            have tq_250a : tx E64 qx a0 21 = (tx E qx a0 21) := tx_same (F64 qx hqx (by rw [tqx]; rfl)) fe_250a
            have po_250a : (fi E64 a0 22).toInt = (((skI (tx E qx a0 21) (fi E a0 21).toInt.toNat (partI (tx E qx a0 21) (fi E a0 21).toInt.toNat x3_8.toInt.toNat (skI (tx E qx a0 21) (fi E a0 21).toInt.toNat (fi E_8 a0 22).toInt.toNat)).2.2) : Nat) : Int) := po_221
            refine tc_vi Z.1 Z.2.2.2.1 Z.2.2.2.2.1 Z.2.2.2.2.2 S103.1 S103.2 ha0 ta0 rfl rfl (k_X10_look_vr l D cy S103.2 ha0 ta0 hqx tqx) (cwV 0 hts gX10_sum_X10_look rfl rfl rfl (by decide +kernel) ⟨Nat.le_of_ble_eq_true rfl, Nat.le_of_ble_eq_true rfl⟩) rfl hl111.1 rfl (Nat.le_of_ble_eq_true rfl) dX10_sum_250 ⟨Nat.zero_le _, Nat.zero_le _⟩ (fun v115 E112 H113 k114 W112 I112 G112 p112 => ?_)
            obtain ⟨q112, p112_0, p112_1, p112_2, p112_3⟩ := p112
            have q112 := q112.symm
            subst q112
            have S112 : Now D TB cy (va_A (va_pl L E) sz) s L τ E64 H113 k114 := ⟨W112, I112⟩
            have pk_250 : v115.toInt = pkI (tx E qx a0 21) (fi E a0 21).toInt.toNat (skI (tx E qx a0 21) (fi E a0 21).toInt.toNat (partI (tx E qx a0 21) (fi E a0 21).toInt.toNat x3_8.toInt.toNat (skI (tx E qx a0 21) (fi E a0 21).toInt.toNat (fi E_8 a0 22).toInt.toNat)).2.2) := by have q := p112_1; rw [tq_250a, fe_250a, show (fi E64 a0 22).toInt.toNat = (skI (tx E qx a0 21) (fi E a0 21).toInt.toNat (partI (tx E qx a0 21) (fi E a0 21).toInt.toNat x3_8.toInt.toNat (skI (tx E qx a0 21) (fi E a0 21).toInt.toNat (fi E_8 a0 22).toInt.toNat)).2.2) from by omega] at q; exact q
            obtain ⟨v116, ev116, tv116⟩ : ∃ v : Int32, (Int8.ofInt (45)).toInt32 = v ∧ v.toInt = 45 := ⟨_, rfl, by decide +kernel⟩
            refine lv_bipush hx hb dX10_sum_253 ev116 ?_
            refine lv_icmp_ne (tgt := 262) hx hb dX10_sum_255 (by decide) (fun c117 => ?_) (fun c117 => ?_)
            · skip
              have tc117 := nu_ne c117
              obtain ⟨v118, ev118, tv118⟩ : ∃ v : Int32, Int32.ofInt (1) = v ∧ v.toInt = 1 := ⟨_, rfl, by decide +kernel⟩
              refine lv_iconst hx hb dX10_sum_262 ev118 ?_
              refine lv_istore (lv' := [(4, .int v118), (5, .int v109), (3, .int v61), (0, .ref a0), (1, .int a1), (2, .int a2), (8, .int x8_178), (9, .int x9_178)]) hx hb dX10_sum_263 hl111 (by decide) rfl (fun l119 hl120 => ?_)
              refine lv_iload hx hb dX10_sum_265 (lv_at hl120 1 rfl) ?_
              refine lv_if_eq (tgt := 280) hx hb dX10_sum_267 (by decide) (fun c121 => ?_) (fun c121 => ?_)
              · skip
                have tc121 := nu_eq c121
                have uc121 : (0 : Int32).toInt = 0 := rfl
                refine lv_goto (tgt := 8) hx hb dX10_sum_280 (by decide) ?_
                exact ih_8 v61 v118 v109 E64 H113 k114 l119 S112 F64 (by have := fb_rng x8_178; omega) (by have := fb_rng x8_178; omega) (by have := fb_rng x8_178; omega) (by have := fb_rng x8_178; omega) (by have := fb_rng x8_178; omega) (by have := fb_rng x8_178; omega) (by have := fb_rng x8_178; omega) (by have := fb_rng x8_178; omega) (by have := fb_rng x8_178; omega) (by have := fb_rng x8_178; omega) (((z30.cell (P48.1 ql (ne_ro tql tq40 (by decide)))).cell (P58.1 ql (ne_ro tql tqd (by decide)))).cell (G64 ql hql (by rw [tql]; rfl))) (((G64 qm hqm (by rw [tqm]; rfl)).trans ((P58.1 qm (ne_ro tqm tqd (by decide))).trans (P48.1 qm (ne_ro tqm tq40 (by decide))))).trans z31) (fun j hj => ((ai_fr G64 hqd (by rw [tqd]; rfl)).trans ((ai_setk P58 (by show j ≠ v57.toInt.toNat; omega)).trans ((ai_set P48 (ne_ro tqd tq40 (by decide))).trans (z32 j hj))))) ((Parts.set (z33.keep ((Grow.refl (s := a1.toInt.toNat)).cell (P48.1 ql (ne_ro tql tq40 (by decide)))) (P48.1 qd (ne_ro tqd tq40 (by decide)))) (fun h => (((Grow.refl (s := a1.toInt.toNat)).cell (P48.1 ql (ne_ro tql tq40 (by decide))))).one (z34 h)) P58 (by omega) (by omega) (by omega) (ne_ro tql tqd (by decide))).keep ((Grow.refl (s := a1.toInt.toNat)).cell (G64 ql hql (by rw [tql]; rfl))) (G64 qd hqd (by rw [tqd]; rfl))) (Or.inr ⟨by omega, by rw [← a8s, sum_end (fun z => z r0_178) (by rw [← pk_225]; omega)]; exact Did.ok rfl po_221⟩) (fun k hk => ((p64_1 k (fw_sub (by decide) hk)).trans ((fi_set P58 (ne_ro ta0 tqd (by decide))).trans ((fi_set P48 (ne_ro ta0 tq40 (by decide))).trans (z36 k hk))))) (by have := fb_rng x8_178; omega) (by rw [((p64_1 21 (by decide)).trans ((fi_set (k := 21) P58 (ne_ro ta0 tqd (by decide))).trans ((fi_set (k := 21) P48 (ne_ro ta0 tq40 (by decide))).trans rfl)))]; have := fb_rng x8_178; omega) (by rw [((p64_1 5 (by decide)).trans ((fi_set (k := 5) P58 (ne_ro ta0 tqd (by decide))).trans ((fi_set (k := 5) P48 (ne_ro ta0 tq40 (by decide))).trans rfl)))]; have := fb_rng x8_178; omega) (by omega) (lv_sub hl120 [3, 4, 5, 2, 0, 1] rfl)
              · skip
                have tc121 := nu_ne c121
                have uc121 : (0 : Int32).toInt = 0 := rfl
                omega
            · skip
              have tc117 := nu_eq c117
              obtain ⟨v122, ev122, tv122⟩ : ∃ v : Int32, Int32.ofInt (-1) = v ∧ v.toInt = -1 := ⟨_, rfl, by decide +kernel⟩
              refine lv_iconst hx hb dX10_sum_258 ev122 ?_
              refine lv_goto (tgt := 263) hx hb dX10_sum_259 (by decide) ?_
              refine lv_istore (lv' := [(4, .int v122), (5, .int v109), (3, .int v61), (0, .ref a0), (1, .int a1), (2, .int a2), (8, .int x8_178), (9, .int x9_178)]) hx hb dX10_sum_263 hl111 (by decide) rfl (fun l123 hl124 => ?_)
              refine lv_iload hx hb dX10_sum_265 (lv_at hl124 1 rfl) ?_
              refine lv_if_eq (tgt := 280) hx hb dX10_sum_267 (by decide) (fun c125 => ?_) (fun c125 => ?_)
              · skip
                have tc125 := nu_eq c125
                have uc125 : (0 : Int32).toInt = 0 := rfl
                refine lv_goto (tgt := 8) hx hb dX10_sum_280 (by decide) ?_
                exact ih_8 v61 v122 v109 E64 H113 k114 l123 S112 F64 (by have := fb_rng x8_178; omega) (by have := fb_rng x8_178; omega) (by have := fb_rng x8_178; omega) (by have := fb_rng x8_178; omega) (by have := fb_rng x8_178; omega) (by have := fb_rng x8_178; omega) (by have := fb_rng x8_178; omega) (by have := fb_rng x8_178; omega) (by have := fb_rng x8_178; omega) (by have := fb_rng x8_178; omega) (((z30.cell (P48.1 ql (ne_ro tql tq40 (by decide)))).cell (P58.1 ql (ne_ro tql tqd (by decide)))).cell (G64 ql hql (by rw [tql]; rfl))) (((G64 qm hqm (by rw [tqm]; rfl)).trans ((P58.1 qm (ne_ro tqm tqd (by decide))).trans (P48.1 qm (ne_ro tqm tq40 (by decide))))).trans z31) (fun j hj => ((ai_fr G64 hqd (by rw [tqd]; rfl)).trans ((ai_setk P58 (by show j ≠ v57.toInt.toNat; omega)).trans ((ai_set P48 (ne_ro tqd tq40 (by decide))).trans (z32 j hj))))) ((Parts.set (z33.keep ((Grow.refl (s := a1.toInt.toNat)).cell (P48.1 ql (ne_ro tql tq40 (by decide)))) (P48.1 qd (ne_ro tqd tq40 (by decide)))) (fun h => (((Grow.refl (s := a1.toInt.toNat)).cell (P48.1 ql (ne_ro tql tq40 (by decide))))).one (z34 h)) P58 (by omega) (by omega) (by omega) (ne_ro tql tqd (by decide))).keep ((Grow.refl (s := a1.toInt.toNat)).cell (G64 ql hql (by rw [tql]; rfl))) (G64 qd hqd (by rw [tqd]; rfl))) (Or.inr ⟨by omega, by rw [← a8s, sum_end (fun z => z r0_178) (by rw [← pk_225]; omega)]; exact Did.ok rfl po_221⟩) (fun k hk => ((p64_1 k (fw_sub (by decide) hk)).trans ((fi_set P58 (ne_ro ta0 tqd (by decide))).trans ((fi_set P48 (ne_ro ta0 tq40 (by decide))).trans (z36 k hk))))) (by have := fb_rng x8_178; omega) (by rw [((p64_1 21 (by decide)).trans ((fi_set (k := 21) P58 (ne_ro ta0 tqd (by decide))).trans ((fi_set (k := 21) P48 (ne_ro ta0 tq40 (by decide))).trans rfl)))]; have := fb_rng x8_178; omega) (by rw [((p64_1 5 (by decide)).trans ((fi_set (k := 5) P58 (ne_ro ta0 tqd (by decide))).trans ((fi_set (k := 5) P48 (ne_ro ta0 tq40 (by decide))).trans rfl)))]; have := fb_rng x8_178; omega) (by omega) (lv_sub hl124 [3, 4, 5, 2, 0, 1] rfl)
              · skip
                have tc125 := nu_ne c125
                have uc125 : (0 : Int32).toInt = 0 := rfl
                omega
          · skip
            have tc108 := nu_eq c108
            obtain ⟨v126, ev126, tv126⟩ : ∃ v : Int32, Int32.ofInt (1) = v ∧ v.toInt = 1 := ⟨_, rfl, by decide +kernel⟩
            refine lv_iconst hx hb dX10_sum_242 ev126 ?_
            refine lv_goto (tgt := 247) hx hb dX10_sum_243 (by decide) ?_
            refine lv_istore (lv' := [(5, .int v126), (3, .int v61), (0, .ref a0), (1, .int a1), (2, .int a2), (4, .int x4_8), (8, .int x8_178), (9, .int x9_178)]) hx hb dX10_sum_247 hl63 (by decide) rfl (fun l127 hl128 => ?_)
            refine lv_aload_n hx hb dX10_sum_249 rfl (lv_at hl128 2 rfl) ?_
            have fe_250a : fi E64 a0 21 = fi E a0 21 := (((p64_1 21 (by decide)).trans ((fi_set (k := 21) P58 (ne_ro ta0 tqd (by decide))).trans (fi_set (k := 21) P48 (ne_ro ta0 tq40 (by decide))))).trans (z36 21 (by decide)))
            have tq_250a : tx E64 qx a0 21 = (tx E qx a0 21) := tx_same (F64 qx hqx (by rw [tqx]; rfl)) fe_250a
            have po_250a : (fi E64 a0 22).toInt = (((skI (tx E qx a0 21) (fi E a0 21).toInt.toNat (partI (tx E qx a0 21) (fi E a0 21).toInt.toNat x3_8.toInt.toNat (skI (tx E qx a0 21) (fi E a0 21).toInt.toNat (fi E_8 a0 22).toInt.toNat)).2.2) : Nat) : Int) := po_221
            refine tc_vi Z.1 Z.2.2.2.1 Z.2.2.2.2.1 Z.2.2.2.2.2 S103.1 S103.2 ha0 ta0 rfl rfl (k_X10_look_vr l D cy S103.2 ha0 ta0 hqx tqx) (cwV 0 hts gX10_sum_X10_look rfl rfl rfl (by decide +kernel) ⟨Nat.le_of_ble_eq_true rfl, Nat.le_of_ble_eq_true rfl⟩) rfl hl128.1 rfl (Nat.le_of_ble_eq_true rfl) dX10_sum_250 ⟨Nat.zero_le _, Nat.zero_le _⟩ (fun v132 E129 H130 k131 W129 I129 G129 p129 => ?_)
            obtain ⟨q129, p129_0, p129_1, p129_2, p129_3⟩ := p129
            have q129 := q129.symm
            subst q129
            have S129 : Now D TB cy (va_A (va_pl L E) sz) s L τ E64 H130 k131 := ⟨W129, I129⟩
            have pk_250 : v132.toInt = pkI (tx E qx a0 21) (fi E a0 21).toInt.toNat (skI (tx E qx a0 21) (fi E a0 21).toInt.toNat (partI (tx E qx a0 21) (fi E a0 21).toInt.toNat x3_8.toInt.toNat (skI (tx E qx a0 21) (fi E a0 21).toInt.toNat (fi E_8 a0 22).toInt.toNat)).2.2) := by have q := p129_1; rw [tq_250a, fe_250a, show (fi E64 a0 22).toInt.toNat = (skI (tx E qx a0 21) (fi E a0 21).toInt.toNat (partI (tx E qx a0 21) (fi E a0 21).toInt.toNat x3_8.toInt.toNat (skI (tx E qx a0 21) (fi E a0 21).toInt.toNat (fi E_8 a0 22).toInt.toNat)).2.2) from by omega] at q; exact q
            obtain ⟨v133, ev133, tv133⟩ : ∃ v : Int32, (Int8.ofInt (45)).toInt32 = v ∧ v.toInt = 45 := ⟨_, rfl, by decide +kernel⟩
            refine lv_bipush hx hb dX10_sum_253 ev133 ?_
            refine lv_icmp_ne (tgt := 262) hx hb dX10_sum_255 (by decide) (fun c134 => ?_) (fun c134 => ?_)
            · skip
              have tc134 := nu_ne c134
              obtain ⟨v135, ev135, tv135⟩ : ∃ v : Int32, Int32.ofInt (1) = v ∧ v.toInt = 1 := ⟨_, rfl, by decide +kernel⟩
              refine lv_iconst hx hb dX10_sum_262 ev135 ?_
              refine lv_istore (lv' := [(4, .int v135), (5, .int v126), (3, .int v61), (0, .ref a0), (1, .int a1), (2, .int a2), (8, .int x8_178), (9, .int x9_178)]) hx hb dX10_sum_263 hl128 (by decide) rfl (fun l136 hl137 => ?_)
              refine lv_iload hx hb dX10_sum_265 (lv_at hl137 1 rfl) ?_
              refine lv_if_eq (tgt := 280) hx hb dX10_sum_267 (by decide) (fun c138 => ?_) (fun c138 => ?_)
              · skip
                have tc138 := nu_eq c138
                have uc138 : (0 : Int32).toInt = 0 := rfl
                omega
              · skip
                have tc138 := nu_ne c138
                have uc138 : (0 : Int32).toInt = 0 := rfl
                refine lv_aload_n hx hb dX10_sum_270 rfl (lv_at hl137 3 rfl) ?_
                refine lv_dup hx hb dX10_sum_271 rfl ?_
                refine tr_geti Z.1 Z.2.2.2.1 S129.1 S129.2 ha0 ta0 rfl rfl (fun _ h => List.mem_cons_of_mem _ (List.mem_append_right _ h)) 22 (by decide) rfl (hts _ (List.mem_of_getElem? (i := 1) rfl)) dX10_sum_272 (fun v139 ev139 lv139 uv139 => ?_)
                have wv139 : v139 = (fi E64 a0 22) := ev139.symm.trans rfl
                have xv139 : v139.toInt = (fi E64 a0 22).toInt := by rw [wv139]
                obtain ⟨v140, ev140, tv140⟩ : ∃ v : Int32, Int32.ofInt (1) = v ∧ v.toInt = 1 := ⟨_, rfl, by decide +kernel⟩
                refine lv_iconst hx hb dX10_sum_275 ev140 ?_
                refine lv_iadd hx hb dX10_sum_276 ?_
                refine lv_topi (fun v141 ev141 => ?_)
                have tv141 := nu_add ev141 (by omega) (by omega)
                refine tr_puti Z.1 Z.2.2.2.1 S129.1 S129.2 ha0 ta0 rfl rfl (fun _ h => List.mem_cons_of_mem _ (List.mem_append_right _ h)) tyX10_ok nmX10 22 (by decide) rfl rfl rfl (hts _ (List.mem_of_getElem? (i := 1) rfl)) dX10_sum_277 (by omega) (by omega) (fun E142 H143 k144 W142 I142 P142 => ?_)
                have S142 : Now D TB cy (va_A (va_pl L E) sz) s L τ E142 H143 k144 := ⟨W142, I142⟩
                have F142 : Fr L τ (inW [(11, 0), (75, 0), (77, 0), (78, 0), (79, 0)]) E E142 := Fr.put F64 P142 ta0 rfl
                have po_277 : (fi E142 a0 22).toInt = ((((skI (tx E qx a0 21) (fi E a0 21).toInt.toNat (partI (tx E qx a0 21) (fi E a0 21).toInt.toNat x3_8.toInt.toNat (skI (tx E qx a0 21) (fi E a0 21).toInt.toNat (fi E_8 a0 22).toInt.toNat)).2.2) + 1) : Nat) : Int) := by have q : (fi E64 a0 22).toInt = (((skI (tx E qx a0 21) (fi E a0 21).toInt.toNat (partI (tx E qx a0 21) (fi E a0 21).toInt.toNat x3_8.toInt.toNat (skI (tx E qx a0 21) (fi E a0 21).toInt.toNat (fi E_8 a0 22).toInt.toNat)).2.2) : Nat) : Int) := po_221; rw [(fi_at P142)]; omega
                refine lv_goto (tgt := 8) hx hb dX10_sum_280 (by decide) ?_
                exact ih_8 v61 v135 v126 E142 H143 k144 l136 S142 F142 (by have := fb_rng x8_178; omega) (by have := fb_rng x8_178; omega) (by have := fb_rng x8_178; omega) (by have := fb_rng x8_178; omega) (by have := fb_rng x8_178; omega) (by have := fb_rng x8_178; omega) (by have := fb_rng x8_178; omega) (by have := fb_rng x8_178; omega) (by have := fb_rng x8_178; omega) (by have := fb_rng x8_178; omega) ((((z30.cell (P48.1 ql (ne_ro tql tq40 (by decide)))).cell (P58.1 ql (ne_ro tql tqd (by decide)))).cell (G64 ql hql (by rw [tql]; rfl))).cell (P142.1 ql (ne_ro tql ta0 (by decide)))) (((P142.1 qm (ne_ro tqm ta0 (by decide))).trans ((G64 qm hqm (by rw [tqm]; rfl)).trans ((P58.1 qm (ne_ro tqm tqd (by decide))).trans (P48.1 qm (ne_ro tqm tq40 (by decide)))))).trans z31) (fun j hj => ((ai_put P142 (ne_ro tqd ta0 (by decide))).trans ((ai_fr G64 hqd (by rw [tqd]; rfl)).trans ((ai_setk P58 (by show j ≠ v57.toInt.toNat; omega)).trans ((ai_set P48 (ne_ro tqd tq40 (by decide))).trans (z32 j hj)))))) ((Parts.set (z33.keep ((Grow.refl (s := a1.toInt.toNat)).cell (P48.1 ql (ne_ro tql tq40 (by decide)))) (P48.1 qd (ne_ro tqd tq40 (by decide)))) (fun h => (((Grow.refl (s := a1.toInt.toNat)).cell (P48.1 ql (ne_ro tql tq40 (by decide))))).one (z34 h)) P58 (by omega) (by omega) (by omega) (ne_ro tql tqd (by decide))).keep (((Grow.refl (s := a1.toInt.toNat)).cell (G64 ql hql (by rw [tql]; rfl))).cell (P142.1 ql (ne_ro tql ta0 (by decide)))) ((P142.1 qd (ne_ro tqd ta0 (by decide))).trans (G64 qd hqd (by rw [tqd]; rfl)))) (Or.inl ⟨by omega, by omega, by rw [show (fi E142 a0 22).toInt.toNat = skI (tx E qx a0 21) (fi E a0 21).toInt.toNat (partI (tx E qx a0 21) (fi E a0 21).toInt.toNat x3_8.toInt.toNat (skI (tx E qx a0 21) (fi E a0 21).toInt.toNat (fi E_8 a0 22).toInt.toNat)).2.2 + 1 from by have q := po_277; omega, show 9 - v61.toInt.toNat = 8 - x3_8.toInt.toNat from by omega, show v61.toInt.toNat = x3_8.toInt.toNat + 1 from by omega, ← a8s, sum_go (fun z => z r0_178) (by rw [← pk_225]; omega)]⟩) (fun k hk => ((fi_put P142 (Or.inr (fw_ne (by decide) hk))).trans ((p64_1 k (fw_sub (by decide) hk)).trans ((fi_set P58 (ne_ro ta0 tqd (by decide))).trans ((fi_set P48 (ne_ro ta0 tq40 (by decide))).trans (z36 k hk)))))) (by rw [(fi_at P142)]; have := fb_rng x8_178; omega) (by rw [((fi_put (k := 21) P142 (Or.inr (by decide))).trans ((p64_1 21 (by decide)).trans ((fi_set (k := 21) P58 (ne_ro ta0 tqd (by decide))).trans ((fi_set (k := 21) P48 (ne_ro ta0 tq40 (by decide))).trans rfl))))]; have := fb_rng x8_178; omega) (by rw [((fi_put (k := 5) P142 (Or.inr (by decide))).trans ((p64_1 5 (by decide)).trans ((fi_set (k := 5) P58 (ne_ro ta0 tqd (by decide))).trans ((fi_set (k := 5) P48 (ne_ro ta0 tq40 (by decide))).trans rfl))))]; have := fb_rng x8_178; omega) (by omega) (lv_sub hl137 [3, 4, 5, 2, 0, 1] rfl)
            · skip
              have tc134 := nu_eq c134
              obtain ⟨v145, ev145, tv145⟩ : ∃ v : Int32, Int32.ofInt (-1) = v ∧ v.toInt = -1 := ⟨_, rfl, by decide +kernel⟩
              refine lv_iconst hx hb dX10_sum_258 ev145 ?_
              refine lv_goto (tgt := 263) hx hb dX10_sum_259 (by decide) ?_
              refine lv_istore (lv' := [(4, .int v145), (5, .int v126), (3, .int v61), (0, .ref a0), (1, .int a1), (2, .int a2), (8, .int x8_178), (9, .int x9_178)]) hx hb dX10_sum_263 hl128 (by decide) rfl (fun l146 hl147 => ?_)
              refine lv_iload hx hb dX10_sum_265 (lv_at hl147 1 rfl) ?_
              refine lv_if_eq (tgt := 280) hx hb dX10_sum_267 (by decide) (fun c148 => ?_) (fun c148 => ?_)
              · skip
                have tc148 := nu_eq c148
                have uc148 : (0 : Int32).toInt = 0 := rfl
                omega
              · skip
                have tc148 := nu_ne c148
                have uc148 : (0 : Int32).toInt = 0 := rfl
                refine lv_aload_n hx hb dX10_sum_270 rfl (lv_at hl147 3 rfl) ?_
                refine lv_dup hx hb dX10_sum_271 rfl ?_
                refine tr_geti Z.1 Z.2.2.2.1 S129.1 S129.2 ha0 ta0 rfl rfl (fun _ h => List.mem_cons_of_mem _ (List.mem_append_right _ h)) 22 (by decide) rfl (hts _ (List.mem_of_getElem? (i := 1) rfl)) dX10_sum_272 (fun v149 ev149 lv149 uv149 => ?_)
                have wv149 : v149 = (fi E64 a0 22) := ev149.symm.trans rfl
                have xv149 : v149.toInt = (fi E64 a0 22).toInt := by rw [wv149]
                obtain ⟨v150, ev150, tv150⟩ : ∃ v : Int32, Int32.ofInt (1) = v ∧ v.toInt = 1 := ⟨_, rfl, by decide +kernel⟩
                refine lv_iconst hx hb dX10_sum_275 ev150 ?_
                refine lv_iadd hx hb dX10_sum_276 ?_
                refine lv_topi (fun v151 ev151 => ?_)
                have tv151 := nu_add ev151 (by omega) (by omega)
                refine tr_puti Z.1 Z.2.2.2.1 S129.1 S129.2 ha0 ta0 rfl rfl (fun _ h => List.mem_cons_of_mem _ (List.mem_append_right _ h)) tyX10_ok nmX10 22 (by decide) rfl rfl rfl (hts _ (List.mem_of_getElem? (i := 1) rfl)) dX10_sum_277 (by omega) (by omega) (fun E152 H153 k154 W152 I152 P152 => ?_)
                have S152 : Now D TB cy (va_A (va_pl L E) sz) s L τ E152 H153 k154 := ⟨W152, I152⟩
                have F152 : Fr L τ (inW [(11, 0), (75, 0), (77, 0), (78, 0), (79, 0)]) E E152 := Fr.put F64 P152 ta0 rfl
                have po_277 : (fi E152 a0 22).toInt = ((((skI (tx E qx a0 21) (fi E a0 21).toInt.toNat (partI (tx E qx a0 21) (fi E a0 21).toInt.toNat x3_8.toInt.toNat (skI (tx E qx a0 21) (fi E a0 21).toInt.toNat (fi E_8 a0 22).toInt.toNat)).2.2) + 1) : Nat) : Int) := by have q : (fi E64 a0 22).toInt = (((skI (tx E qx a0 21) (fi E a0 21).toInt.toNat (partI (tx E qx a0 21) (fi E a0 21).toInt.toNat x3_8.toInt.toNat (skI (tx E qx a0 21) (fi E a0 21).toInt.toNat (fi E_8 a0 22).toInt.toNat)).2.2) : Nat) : Int) := po_221; rw [(fi_at P152)]; omega
                refine lv_goto (tgt := 8) hx hb dX10_sum_280 (by decide) ?_
                exact ih_8 v61 v145 v126 E152 H153 k154 l146 S152 F152 (by have := fb_rng x8_178; omega) (by have := fb_rng x8_178; omega) (by have := fb_rng x8_178; omega) (by have := fb_rng x8_178; omega) (by have := fb_rng x8_178; omega) (by have := fb_rng x8_178; omega) (by have := fb_rng x8_178; omega) (by have := fb_rng x8_178; omega) (by have := fb_rng x8_178; omega) (by have := fb_rng x8_178; omega) ((((z30.cell (P48.1 ql (ne_ro tql tq40 (by decide)))).cell (P58.1 ql (ne_ro tql tqd (by decide)))).cell (G64 ql hql (by rw [tql]; rfl))).cell (P152.1 ql (ne_ro tql ta0 (by decide)))) (((P152.1 qm (ne_ro tqm ta0 (by decide))).trans ((G64 qm hqm (by rw [tqm]; rfl)).trans ((P58.1 qm (ne_ro tqm tqd (by decide))).trans (P48.1 qm (ne_ro tqm tq40 (by decide)))))).trans z31) (fun j hj => ((ai_put P152 (ne_ro tqd ta0 (by decide))).trans ((ai_fr G64 hqd (by rw [tqd]; rfl)).trans ((ai_setk P58 (by show j ≠ v57.toInt.toNat; omega)).trans ((ai_set P48 (ne_ro tqd tq40 (by decide))).trans (z32 j hj)))))) ((Parts.set (z33.keep ((Grow.refl (s := a1.toInt.toNat)).cell (P48.1 ql (ne_ro tql tq40 (by decide)))) (P48.1 qd (ne_ro tqd tq40 (by decide)))) (fun h => (((Grow.refl (s := a1.toInt.toNat)).cell (P48.1 ql (ne_ro tql tq40 (by decide))))).one (z34 h)) P58 (by omega) (by omega) (by omega) (ne_ro tql tqd (by decide))).keep (((Grow.refl (s := a1.toInt.toNat)).cell (G64 ql hql (by rw [tql]; rfl))).cell (P152.1 ql (ne_ro tql ta0 (by decide)))) ((P152.1 qd (ne_ro tqd ta0 (by decide))).trans (G64 qd hqd (by rw [tqd]; rfl)))) (Or.inl ⟨by omega, by omega, by rw [show (fi E152 a0 22).toInt.toNat = skI (tx E qx a0 21) (fi E a0 21).toInt.toNat (partI (tx E qx a0 21) (fi E a0 21).toInt.toNat x3_8.toInt.toNat (skI (tx E qx a0 21) (fi E a0 21).toInt.toNat (fi E_8 a0 22).toInt.toNat)).2.2 + 1 from by have q := po_277; omega, show 9 - v61.toInt.toNat = 8 - x3_8.toInt.toNat from by omega, show v61.toInt.toNat = x3_8.toInt.toNat + 1 from by omega, ← a8s, sum_go (fun z => z r0_178) (by rw [← pk_225]; omega)]⟩) (fun k hk => ((fi_put P152 (Or.inr (fw_ne (by decide) hk))).trans ((p64_1 k (fw_sub (by decide) hk)).trans ((fi_set P58 (ne_ro ta0 tqd (by decide))).trans ((fi_set P48 (ne_ro ta0 tq40 (by decide))).trans (z36 k hk)))))) (by rw [(fi_at P152)]; have := fb_rng x8_178; omega) (by rw [((fi_put (k := 21) P152 (Or.inr (by decide))).trans ((p64_1 21 (by decide)).trans ((fi_set (k := 21) P58 (ne_ro ta0 tqd (by decide))).trans ((fi_set (k := 21) P48 (ne_ro ta0 tq40 (by decide))).trans rfl))))]; have := fb_rng x8_178; omega) (by rw [((fi_put (k := 5) P152 (Or.inr (by decide))).trans ((p64_1 5 (by decide)).trans ((fi_set (k := 5) P58 (ne_ro ta0 tqd (by decide))).trans ((fi_set (k := 5) P48 (ne_ro ta0 tq40 (by decide))).trans rfl))))]; have := fb_rng x8_178; omega) (by omega) (lv_sub hl147 [3, 4, 5, 2, 0, 1] rfl)
      refine lv_iload hx hb dX10_sum_8 (lv_at hl_8 5 rfl) ?_
      refine lv_if_eq (tgt := 283) hx hb dX10_sum_10 (by decide) (fun c155 => ?_) (fun c155 => ?_)
      · skip
        have tc155 := nu_eq c155
        have uc155 : (0 : Int32).toInt = 0 := rfl
        refine lv_aload_n hx hb dX10_sum_283 rfl (lv_at hl_8 0 rfl) ?_
        refine tr_getr Z.1 Z.2.2.2.1 S_8.1 S_8.2 ha0 ta0 rfl rfl (fun _ h => List.mem_cons_of_mem _ (List.mem_append_right _ h)) 26 (by decide) rfl (hts _ (List.mem_of_getElem? (i := 4) rfl)) dX10_sum_284 (fun q156 eq156 hq156 tq156 => ?_)
        have tq156 : τ q156 = (77, 0) := tq156
        have uq156 : qm = q156 := S_8.2.2.2.2 _ hqm _ hq156 (tqm.trans tq156.symm) (by rw [tqm]; rfl)
        subst uq156
        obtain ⟨v157, ev157, tv157⟩ : ∃ v : Int32, (Int8.ofInt (8)).toInt32 = v ∧ v.toInt = 8 := ⟨_, rfl, by decide +kernel⟩
        refine lv_bipush hx hb dX10_sum_287 ev157 ?_
        refine lv_iload_n hx hb dX10_sum_289 rfl (lv_at hl_8 1 rfl) ?_
        refine lv_imul hx hb dX10_sum_290 ?_
        refine lv_topi (fun v158 ev158 => ?_)
        have tv158 := nu_mulc' (8) ev158 (by omega) (by omega) (by omega)
        refine lv_iload_n hx hb dX10_sum_291 rfl (lv_at hl_8 2 rfl) ?_
        refine lv_iadd hx hb dX10_sum_292 ?_
        refine lv_topi (fun v159 ev159 => ?_)
        have tv159 := nu_add ev159 (by omega) (by omega)
        refine lv_iload_n hx hb dX10_sum_293 rfl (lv_at hl_8 3 rfl) ?_
        refine tr_iast Z.1 Z.2.2.2.1 S_8.1 S_8.2 hqm tqm rfl (by omega) (by omega) (by omega) (by omega) dX10_sum_294 (fun E160 H161 k162 W160 I160 P160 => ?_)
        have S160 : Now D TB cy (va_A (va_pl L E) sz) s L τ E160 H161 k162 := ⟨W160, I160⟩
        have F160 : Fr L τ (inW [(11, 0), (75, 0), (77, 0), (78, 0), (79, 0)]) E E160 := Fr.set F_8 P160 tqm rfl
        rw [← hQ]
        exact en_v Z S160 F160 ⟨(z11.cell (P160.1 ql (ne_ro tql tqm (by decide)))), (fun j hj => (P160.2.2 j (by show j ≠ v159.toInt.toNat; omega)).trans (congrFun (ai_cell z12) j)), (fun j hj => ((ai_set P160 (ne_ro tqd tqm (by decide))).trans (z13 j hj))), (fun _ => Parts.ok z14 P160 (by omega) (ne_ro tql tqm (by decide)) (ne_ro tqd tqm (by decide))), (by rw [(fi_set (k := 5) P160 (ne_ro ta0 tqm (by decide))), (fi_set (k := 6) P160 (ne_ro ta0 tqm (by decide))), (fi_set (k := 22) P160 (ne_ro ta0 tqm (by decide))), show (fi E_8 a0 5).toInt = 0 from by omega]; rcases z15 with q | q; omega; exact q.2), (fun k hk => ((fi_set P160 (ne_ro ta0 tqm (by decide))).trans (z16 k hk)))⟩ dX10_sum_295
      · skip
        have tc155 := nu_ne c155
        have uc155 : (0 : Int32).toInt = 0 := rfl
        refine lv_aload_n hx hb dX10_sum_13 rfl (lv_at hl_8 0 rfl) ?_
        refine tc_vi Z.1 Z.2.2.2.1 Z.2.2.2.2.1 Z.2.2.2.2.2 S_8.1 S_8.2 ha0 ta0 rfl rfl (k_X10_bad l D cy S_8.2 ha0 ta0) (cwV 0 hts gX10_sum_X10_bad rfl rfl rfl (by decide +kernel) ⟨Nat.le_of_ble_eq_true rfl, Nat.le_of_ble_eq_true rfl⟩) rfl hl_8.1 rfl (Nat.le_of_ble_eq_true rfl) dX10_sum_14 ⟨Nat.zero_le _, Nat.zero_le _⟩ (fun v166 E163 H164 k165 W163 I163 G163 p163 => ?_)
        obtain ⟨q163, p163_0, p163_1, p163_2⟩ := p163
        have q163 := q163.symm
        subst q163
        have S163 : Now D TB cy (va_A (va_pl L E) sz) s L τ E_8 H164 k165 := ⟨W163, I163⟩
        refine lv_if_ne (tgt := 283) hx hb dX10_sum_17 (by decide) (fun c167 => ?_) (fun c167 => ?_)
        · skip
          have tc167 := nu_ne c167
          have uc167 : (0 : Int32).toInt = 0 := rfl
          omega
        · skip
          have tc167 := nu_eq c167
          have uc167 : (0 : Int32).toInt = 0 := rfl
          have f5_8 : (fi E_8 a0 5).toInt = 0 := by omega
          have a8 : x3_8.toInt ≤ 8 ∧ sumF (tx E qx a0 21) (fi E a0 21).toInt.toNat (9 - x3_8.toInt.toNat) x3_8.toInt.toNat (fi E_8 a0 22).toInt.toNat = (sumI (tx E qx a0 21) (fi E a0 21).toInt.toNat (fi E a0 22).toInt.toNat) := by rcases z15 with q | q; exact q.2; omega
          have a8e : 9 - x3_8.toInt.toNat = (8 - x3_8.toInt.toNat) + 1 := by omega
          have a8s := a8.2
          rw [a8e] at a8s
          have pz8 : (fi E_8 a0 22).toInt = (((fi E_8 a0 22).toInt.toNat : Nat) : Int) := by omega
          refine lv_aload_n hx hb dX10_sum_20 rfl (lv_at hl_8 0 rfl) ?_
          have fe_21a : fi E_8 a0 21 = fi E a0 21 := (z16 21 (by decide))
          have tq_21a : tx E_8 qx a0 21 = (tx E qx a0 21) := tx_same (F_8 qx hqx (by rw [tqx]; rfl)) fe_21a
          have po_21a : (fi E_8 a0 22).toInt = (((fi E_8 a0 22).toInt.toNat : Nat) : Int) := pz8
          refine tc_vv Z.1 Z.2.2.2.1 Z.2.2.2.2.1 Z.2.2.2.2.2 S163.1 S163.2 ha0 ta0 rfl rfl (k_X10_blanks_vr l D cy S163.2 ha0 ta0 hqx tqx) (cwV 0 hts gX10_sum_X10_blanks rfl rfl rfl (by decide +kernel) ⟨Nat.le_of_ble_eq_true rfl, Nat.le_of_ble_eq_true rfl⟩) rfl hl_8.1 rfl (Nat.le_of_ble_eq_true rfl) dX10_sum_21 ⟨Nat.zero_le _, Nat.zero_le _⟩ (fun E168 H169 k170 W168 I168 G168 p168 => ?_)
          obtain ⟨p168_0, p168_1⟩ := p168
          have S168 : Now D TB cy (va_A (va_pl L E) sz) s L τ E168 H169 k170 := ⟨W168, I168⟩
          have F168 : Fr L τ (inW [(11, 0), (75, 0), (77, 0), (78, 0), (79, 0)]) E E168 := F_8.trans (G168.mono (inW_mono (by decide)))
          have po_21 : (fi E168 a0 22).toInt = (((skI (tx E qx a0 21) (fi E a0 21).toInt.toNat (fi E_8 a0 22).toInt.toNat) : Nat) : Int) := by have q := p168_0; rw [tq_21a, fe_21a] at q; exact q
          have kp_21 := fi_rng (k := 22) S168.2 ha0 ta0 rfl rfl
          refine lv_aload_n hx hb dX10_sum_24 rfl (lv_at hl_8 0 rfl) ?_
          refine tr_geti Z.1 Z.2.2.2.1 S168.1 S168.2 ha0 ta0 rfl rfl (fun _ h => List.mem_cons_of_mem _ (List.mem_append_right _ h)) 22 (by decide) rfl (hts _ (List.mem_of_getElem? (i := 1) rfl)) dX10_sum_25 (fun v172 ev172 lv172 uv172 => ?_)
          have wv172 : v172 = (fi E168 a0 22) := ev172.symm.trans rfl
          have xv172 : v172.toInt = (fi E168 a0 22).toInt := by rw [wv172]
          refine lv_istore (lv' := [(6, .int v172), (0, .ref a0), (1, .int a1), (2, .int a2), (3, .int x3_8), (4, .int x4_8), (5, .int x5_8)]) hx hb dX10_sum_28 hl_8 (by decide) rfl (fun l173 hl174 => ?_)
          refine lv_aload_n hx hb dX10_sum_30 rfl (lv_at hl174 1 rfl) ?_
          have fe_31a : fi E168 a0 21 = fi E a0 21 := ((p168_1 21 (by decide)).trans (z16 21 (by decide)))
          have tq_31a : tx E168 qx a0 21 = (tx E qx a0 21) := tx_same (F168 qx hqx (by rw [tqx]; rfl)) fe_31a
          have po_31a : (fi E168 a0 22).toInt = (((skI (tx E qx a0 21) (fi E a0 21).toInt.toNat (fi E_8 a0 22).toInt.toNat) : Nat) : Int) := po_21
          refine tc_vi Z.1 Z.2.2.2.1 Z.2.2.2.2.1 Z.2.2.2.2.2 S168.1 S168.2 ha0 ta0 rfl rfl (k_X10_look_vr l D cy S168.2 ha0 ta0 hqx tqx) (cwV 0 hts gX10_sum_X10_look rfl rfl rfl (by decide +kernel) ⟨Nat.le_of_ble_eq_true rfl, Nat.le_of_ble_eq_true rfl⟩) rfl hl174.1 rfl (Nat.le_of_ble_eq_true rfl) dX10_sum_31 ⟨Nat.zero_le _, Nat.zero_le _⟩ (fun v178 E175 H176 k177 W175 I175 G175 p175 => ?_)
          obtain ⟨q175, p175_0, p175_1, p175_2, p175_3⟩ := p175
          have q175 := q175.symm
          subst q175
          have S175 : Now D TB cy (va_A (va_pl L E) sz) s L τ E168 H176 k177 := ⟨W175, I175⟩
          try rw [ev172] at p175_0
          have pk_31 : v178.toInt = pkI (tx E qx a0 21) (fi E a0 21).toInt.toNat (skI (tx E qx a0 21) (fi E a0 21).toInt.toNat (fi E_8 a0 22).toInt.toNat) := by have q := p175_1; rw [tq_31a, fe_31a, show (fi E168 a0 22).toInt.toNat = (skI (tx E qx a0 21) (fi E a0 21).toInt.toNat (fi E_8 a0 22).toInt.toNat) from by omega] at q; exact q
          obtain ⟨v179, ev179, tv179⟩ : ∃ v : Int32, (Int8.ofInt (48)).toInt32 = v ∧ v.toInt = 48 := ⟨_, rfl, by decide +kernel⟩
          refine lv_bipush hx hb dX10_sum_34 ev179 ?_
          refine lv_icmp_lt (tgt := 52) hx hb dX10_sum_36 (by decide) (fun c180 => ?_) (fun c180 => ?_)
          · skip
            have tc180 := nu_lt c180
            obtain ⟨v181, ev181, tv181⟩ : ∃ v : Int32, Int32.ofInt (0) = v ∧ v.toInt = 0 := ⟨_, rfl, by decide +kernel⟩
            refine lv_iconst hx hb dX10_sum_52 ev181 ?_
            refine lv_istore (lv' := [(7, .int v181), (6, .int v172), (0, .ref a0), (1, .int a1), (2, .int a2), (3, .int x3_8), (4, .int x4_8), (5, .int x5_8)]) hx hb dX10_sum_53 hl174 (by decide) rfl (fun l182 hl183 => ?_)
            refine lv_iload hx hb dX10_sum_55 (lv_at hl183 0 rfl) ?_
            refine lv_if_ne (tgt := 82) hx hb dX10_sum_57 (by decide) (fun c184 => ?_) (fun c184 => ?_)
            · skip
              have tc184 := nu_ne c184
              have uc184 : (0 : Int32).toInt = 0 := rfl
              omega
            · skip
              have tc184 := nu_eq c184
              have uc184 : (0 : Int32).toInt = 0 := rfl
              refine lv_aload_n hx hb dX10_sum_60 rfl (lv_at hl183 2 rfl) ?_
              refine lv_aload_n hx hb dX10_sum_61 rfl (lv_at hl183 2 rfl) ?_
              have fe_62a : fi E168 a0 21 = fi E a0 21 := ((p168_1 21 (by decide)).trans (z16 21 (by decide)))
              have tq_62a : tx E168 qx a0 21 = (tx E qx a0 21) := tx_same (F168 qx hqx (by rw [tqx]; rfl)) fe_62a
              have po_62a : (fi E168 a0 22).toInt = (((skI (tx E qx a0 21) (fi E a0 21).toInt.toNat (fi E_8 a0 22).toInt.toNat) : Nat) : Int) := po_21
              refine tc_vl Z.1 Z.2.2.2.1 Z.2.2.2.2.1 Z.2.2.2.2.2 S175.1 S175.2 ha0 ta0 rfl rfl (k_X10_wordAt_vr l D cy S175.2 ha0 ta0 hqx tqx) (cwV 0 hts gX10_sum_X10_wordAt rfl rfl rfl (by decide +kernel) ⟨Nat.le_of_ble_eq_true rfl, Nat.le_of_ble_eq_true rfl⟩) rfl hl183.1 rfl (Nat.le_of_ble_eq_true rfl) dX10_sum_62 ⟨Nat.zero_le _, Nat.zero_le _⟩ (fun v188 E185 H186 k187 W185 I185 G185 p185 => ?_)
              obtain ⟨q185, p185_0⟩ := p185
              have q185 := q185.symm
              subst q185
              have S185 : Now D TB cy (va_A (va_pl L E) sz) s L τ E168 H186 k187 := ⟨W185, I185⟩
              refine tc_vi Z.1 Z.2.2.2.1 Z.2.2.2.2.1 Z.2.2.2.2.2 S185.1 S185.2 ha0 ta0 rfl rfl (k_X10_nameOf_vr l D cy S185.2 ha0 ta0 v188) (cwV 1 hts gX10_sum_X10_nameOf rfl rfl rfl (by decide +kernel) ⟨Nat.le_of_ble_eq_true rfl, Nat.le_of_ble_eq_true rfl⟩) rfl hl183.1 rfl (Nat.le_of_ble_eq_true rfl) dX10_sum_65 ⟨Nat.zero_le _, Nat.zero_le _⟩ (fun v192 E189 H190 k191 W189 I189 G189 p189 => ?_)
              obtain ⟨q189, p189_0, p189_1, p189_2⟩ := p189
              have q189 := q189.symm
              subst q189
              have S189 : Now D TB cy (va_A (va_pl L E) sz) s L τ E168 H190 k191 := ⟨W189, I189⟩
              have wd_62 : v188.toInt = wdI (tx E qx a0 21) (fi E a0 21).toInt.toNat (skI (tx E qx a0 21) (fi E a0 21).toInt.toNat (fi E_8 a0 22).toInt.toNat) := by have q := p185_0; rw [tq_62a, fe_62a, show (fi E168 a0 22).toInt.toNat = (skI (tx E qx a0 21) (fi E a0 21).toInt.toNat (fi E_8 a0 22).toInt.toNat) from by omega] at q; exact q
              have nv_65 : v192.toInt = nmV (wdI (tx E qx a0 21) (fi E a0 21).toInt.toNat (skI (tx E qx a0 21) (fi E a0 21).toInt.toNat (fi E_8 a0 22).toInt.toNat)) := by rw [← wd_62]; exact p189_0
              obtain ⟨v193, ev193, tv193⟩ : ∃ v : Int32, Int32.ofInt (-1) = v ∧ v.toInt = -1 := ⟨_, rfl, by decide +kernel⟩
              refine lv_iconst hx hb dX10_sum_68 ev193 ?_
              refine lv_icmp_ne (tgt := 82) hx hb dX10_sum_69 (by decide) (fun c194 => ?_) (fun c194 => ?_)
              · skip
                have tc194 := nu_ne c194
                obtain ⟨v195, ev195, tv195⟩ : ∃ v : Int32, Int32.ofInt (1) = v ∧ v.toInt = 1 := ⟨_, rfl, by decide +kernel⟩
                refine lv_iconst hx hb dX10_sum_82 ev195 ?_
                refine lv_istore (lv' := [(8, .int v195), (7, .int v181), (6, .int v172), (0, .ref a0), (1, .int a1), (2, .int a2), (3, .int x3_8), (4, .int x4_8), (5, .int x5_8)]) hx hb dX10_sum_83 hl183 (by decide) rfl (fun l196 hl197 => ?_)
                obtain ⟨v198, ev198, tv198⟩ : ∃ v : Int32, (Int8.ofInt (8)).toInt32 = v ∧ v.toInt = 8 := ⟨_, rfl, by decide +kernel⟩
                refine lv_bipush hx hb dX10_sum_85 ev198 ?_
                refine lv_istore (lv' := [(9, .int v198), (8, .int v195), (7, .int v181), (6, .int v172), (0, .ref a0), (1, .int a1), (2, .int a2), (3, .int x3_8), (4, .int x4_8), (5, .int x5_8)]) hx hb dX10_sum_87 hl197 (by decide) rfl (fun l199 hl200 => ?_)
                refine lv_iload hx hb dX10_sum_89 (lv_at hl200 2 rfl) ?_
                refine lv_if_eq (tgt := 100) hx hb dX10_sum_91 (by decide) (fun c201 => ?_) (fun c201 => ?_)
                · skip
                  have tc201 := nu_eq c201
                  have uc201 : (0 : Int32).toInt = 0 := rfl
                  refine lv_iload_n hx hb dX10_sum_100 rfl (lv_at hl200 7 rfl) ?_
                  obtain ⟨v202, ev202, tv202⟩ : ∃ v : Int32, (Int8.ofInt (8)).toInt32 = v ∧ v.toInt = 8 := ⟨_, rfl, by decide +kernel⟩
                  refine lv_bipush hx hb dX10_sum_101 ev202 ?_
                  refine lv_icmp_ne (tgt := 113) hx hb dX10_sum_103 (by decide) (fun c203 => ?_) (fun c203 => ?_)
                  · skip
                    have tc203 := nu_ne c203
                    refine lv_aload_n hx hb dX10_sum_113 rfl (lv_at hl200 4 rfl) ?_
                    refine tc_vi Z.1 Z.2.2.2.1 Z.2.2.2.2.1 Z.2.2.2.2.2 S189.1 S189.2 ha0 ta0 rfl rfl (k_X10_bad l D cy S189.2 ha0 ta0) (cwV 0 hts gX10_sum_X10_bad rfl rfl rfl (by decide +kernel) ⟨Nat.le_of_ble_eq_true rfl, Nat.le_of_ble_eq_true rfl⟩) rfl hl200.1 rfl (Nat.le_of_ble_eq_true rfl) dX10_sum_114 ⟨Nat.zero_le _, Nat.zero_le _⟩ (fun v207 E204 H205 k206 W204 I204 G204 p204 => ?_)
                    obtain ⟨q204, p204_0, p204_1, p204_2⟩ := p204
                    have q204 := q204.symm
                    subst q204
                    have S204 : Now D TB cy (va_A (va_pl L E) sz) s L τ E168 H205 k206 := ⟨W204, I204⟩
                    try rw [((p168_1 5 (by decide)).trans rfl)] at p204_0
                    refine lv_if_eq (tgt := 121) hx hb dX10_sum_117 (by decide) (fun c208 => ?_) (fun c208 => ?_)
                    · skip
                      have tc208 := nu_eq c208
                      have uc208 : (0 : Int32).toInt = 0 := rfl
                      have f0_121 : (fi E168 a0 5).toInt = 0 := by rw [(p168_1 5 (by decide))]; exact f5_8
                      refine lv_iload hx hb dX10_sum_121 (lv_at hl200 2 rfl) ?_
                      refine lv_if_eq (tgt := 163) hx hb dX10_sum_123 (by decide) (fun c209 => ?_) (fun c209 => ?_)
                      · skip
                        have tc209 := nu_eq c209
                        have uc209 : (0 : Int32).toInt = 0 := rfl
                        refine lv_aload_n hx hb dX10_sum_163 rfl (lv_at hl200 4 rfl) ?_
                        refine lv_iload_n hx hb dX10_sum_164 rfl (lv_at hl200 5 rfl) ?_
                        have fe_165a : fi E168 a0 21 = fi E a0 21 := ((p168_1 21 (by decide)).trans (z16 21 (by decide)))
                        have tq_165a : tx E168 qx a0 21 = (tx E qx a0 21) := tx_same (F168 qx hqx (by rw [tqx]; rfl)) fe_165a
                        have po_165a : (fi E168 a0 22).toInt = (((skI (tx E qx a0 21) (fi E a0 21).toInt.toNat (fi E_8 a0 22).toInt.toNat) : Nat) : Int) := po_21
                        have f0_165 : (fi E168 a0 5).toInt = 0 := by rw [(p168_1 5 (by decide))]; exact f5_8
                        refine tc_vi Z.1 Z.2.2.2.1 Z.2.2.2.2.1 Z.2.2.2.2.2 S204.1 S204.2 ha0 ta0 rfl rfl (k_X10_name_vr l D cy S204.2 ha0 ta0 a1 (by omega) (by omega) hql tql hqx tqx f0_165) (cwV 1 hts gX10_sum_X10_name rfl rfl rfl (by decide +kernel) ⟨Nat.le_of_ble_eq_true rfl, Nat.le_of_ble_eq_true rfl⟩) rfl hl200.1 rfl (Nat.le_of_ble_eq_true rfl) dX10_sum_165 ⟨Nat.zero_le _, Nat.zero_le _⟩ (fun v213 E210 H211 k212 W210 I210 G210 p210 => ?_)
                        obtain ⟨p210_0, p210_1, p210_2, p210_3, p210_4, p210_5⟩ := p210
                        have S210 : Now D TB cy (va_A (va_pl L E) sz) s L τ E210 H211 k212 := ⟨W210, I210⟩
                        have F210 : Fr L τ (inW [(11, 0), (75, 0), (77, 0), (78, 0), (79, 0)]) E E210 := F168.trans (G210.mono (inW_mono (by decide)))
                        have nr_165 : (nmV (wdI (tx E qx a0 21) (fi E a0 21).toInt.toNat (skI (tx E qx a0 21) (fi E a0 21).toInt.toNat (fi E_8 a0 22).toInt.toNat)) = -1 ∧ (fi E210 a0 5).toInt = 1 ∧ (fi E210 a0 6).toInt = (((skI (tx E qx a0 21) (fi E a0 21).toInt.toNat (fi E_8 a0 22).toInt.toNat) : Nat) : Int)) ∨ (nmV (wdI (tx E qx a0 21) (fi E a0 21).toInt.toNat (skI (tx E qx a0 21) (fi E a0 21).toInt.toNat (fi E_8 a0 22).toInt.toNat)) ≠ -1 ∧ (fi E210 a0 5).toInt = 0 ∧ (fi E210 a0 22).toInt = ((nameE (tx E qx a0 21) (fi E a0 21).toInt.toNat (skI (tx E qx a0 21) (fi E a0 21).toInt.toNat (fi E_8 a0 22).toInt.toNat) : Nat) : Int)) := by have q := p210_2; rw [tq_165a, fe_165a, show (fi E168 a0 22).toInt.toNat = (skI (tx E qx a0 21) (fi E a0 21).toInt.toNat (fi E_8 a0 22).toInt.toNat) from by omega] at q; omega
                        have kp_165f := fi_rng (k := 5) S210.2 ha0 ta0 rfl rfl
                        have kp_165p := fi_rng (k := 22) S210.2 ha0 ta0 rfl rfl
                        refine lv_istore (lv' := [(9, .int v213), (8, .int v195), (7, .int v181), (6, .int v172), (0, .ref a0), (1, .int a1), (2, .int a2), (3, .int x3_8), (4, .int x4_8), (5, .int x5_8)]) hx hb dX10_sum_168 hl200 (by decide) rfl (fun l214 hl215 => ?_)
                        refine lv_aload_n hx hb dX10_sum_170 rfl (lv_at hl215 4 rfl) ?_
                        refine tc_vi Z.1 Z.2.2.2.1 Z.2.2.2.2.1 Z.2.2.2.2.2 S210.1 S210.2 ha0 ta0 rfl rfl (k_X10_bad l D cy S210.2 ha0 ta0) (cwV 0 hts gX10_sum_X10_bad rfl rfl rfl (by decide +kernel) ⟨Nat.le_of_ble_eq_true rfl, Nat.le_of_ble_eq_true rfl⟩) rfl hl215.1 rfl (Nat.le_of_ble_eq_true rfl) dX10_sum_171 ⟨Nat.zero_le _, Nat.zero_le _⟩ (fun v219 E216 H217 k218 W216 I216 G216 p216 => ?_)
                        obtain ⟨q216, p216_0, p216_1, p216_2⟩ := p216
                        have q216 := q216.symm
                        subst q216
                        have S216 : Now D TB cy (va_A (va_pl L E) sz) s L τ E210 H217 k218 := ⟨W216, I216⟩
                        refine lv_if_eq (tgt := 178) hx hb dX10_sum_174 (by decide) (fun c220 => ?_) (fun c220 => ?_)
                        · skip
                          have tc220 := nu_eq c220
                          have uc220 : (0 : Int32).toInt = 0 := rfl
                          have no_165 : nmV (wdI (tx E qx a0 21) (fi E a0 21).toInt.toNat (skI (tx E qx a0 21) (fi E a0 21).toInt.toNat (fi E_8 a0 22).toInt.toNat)) ≠ -1 ∧ (fi E210 a0 22).toInt = ((nameE (tx E qx a0 21) (fi E a0 21).toInt.toNat (skI (tx E qx a0 21) (fi E a0 21).toInt.toNat (fi E_8 a0 22).toInt.toNat) : Nat) : Int) := by rcases nr_165 with q | q; omega; exact ⟨q.1, q.2.2⟩
                          have pe_178 : (partI (tx E qx a0 21) (fi E a0 21).toInt.toNat x3_8.toInt.toNat (skI (tx E qx a0 21) (fi E a0 21).toInt.toNat (fi E_8 a0 22).toInt.toNat)) = (0, -1, (nameE (tx E qx a0 21) (fi E a0 21).toInt.toNat (skI (tx E qx a0 21) (fi E a0 21).toInt.toNat (fi E_8 a0 22).toInt.toNat))) := by rw [part_name (by unfold isDg; rw [← pk_31]; omega) no_165.1 (by omega)]
                          have r0_178 : (partI (tx E qx a0 21) (fi E a0 21).toInt.toNat x3_8.toInt.toNat (skI (tx E qx a0 21) (fi E a0 21).toInt.toNat (fi E_8 a0 22).toInt.toNat)).1 = 0 := by rw [pe_178]
                          have r2_178 : (partI (tx E qx a0 21) (fi E a0 21).toInt.toNat x3_8.toInt.toNat (skI (tx E qx a0 21) (fi E a0 21).toInt.toNat (fi E_8 a0 22).toInt.toNat)).2.2 = (nameE (tx E qx a0 21) (fi E a0 21).toInt.toNat (skI (tx E qx a0 21) (fi E a0 21).toInt.toNat (fi E_8 a0 22).toInt.toNat)) := by rw [pe_178]
                          have k8_178 : x3_8.toInt ≤ 7 := by have q8 : ¬ 8 ≤ x3_8.toInt.toNat := fun z => part8 (B := (tx E qx a0 21)) (n := (fi E a0 21).toInt.toNat) (s := (skI (tx E qx a0 21) (fi E a0 21).toInt.toNat (fi E_8 a0 22).toInt.toNat)) z r0_178; omega
                          have f0_178 : (fi E210 a0 5).toInt = 0 := by omega
                          exact J178 v195 v213 E210 H217 k218 l214 S216 F210 (by omega) (by omega) (by omega) (by omega) (by omega) (by omega) (by omega) (by omega) (by omega) (by omega) ((z11.cell (G168 ql hql (by rw [tql]; rfl))).trans p210_0) (((G210 qm hqm (by rw [tqm]; rfl)).trans (G168 qm hqm (by rw [tqm]; rfl))).trans z12) (fun j hj => ((ai_fr G210 hqd (by rw [tqd]; rfl)).trans ((ai_fr G168 hqd (by rw [tqd]; rfl)).trans (z13 j hj)))) (z14.keep (((Grow.refl (s := a1.toInt.toNat)).cell (G168 ql hql (by rw [tql]; rfl))).trans p210_0) ((G210 qd hqd (by rw [tqd]; rfl)).trans (G168 qd hqd (by rw [tqd]; rfl)))) p210_1 ⟨f0_178, r0_178, (by rw [r2_178]; exact no_165.2), k8_178, a8s, by omega⟩ (fun k hk => ((p210_5 k (fw_sub (by decide) hk)).trans ((p168_1 k (fw_sub (by decide) hk)).trans (z16 k hk)))) (by omega) (by rw [((p210_5 21 (by decide)).trans ((p168_1 21 (by decide)).trans rfl))]; omega) (by omega) (lv_sub hl215 [4, 5, 6, 7, 8, 1, 0] rfl)
                        · skip
                          have tc220 := nu_ne c220
                          have uc220 : (0 : Int32).toInt = 0 := rfl
                          rw [← hQ]
                          exact en_v Z S216 F210 ⟨((z11.cell (G168 ql hql (by rw [tql]; rfl))).trans p210_0), (fun j _ => congrFun (ai_cell (((G210 qm hqm (by rw [tqm]; rfl)).trans (G168 qm hqm (by rw [tqm]; rfl))).trans z12)) j), (fun j hj => ((ai_fr G210 hqd (by rw [tqd]; rfl)).trans ((ai_fr G168 hqd (by rw [tqd]; rfl)).trans (z13 j hj)))), (fun h => absurd h (by omega)), (by rcases nr_165 with q | q; exact absurd q.1 (by rw [← nv_65]; omega); omega), (fun k hk => ((p210_5 k (fw_sub (by decide) hk)).trans ((p168_1 k (fw_sub (by decide) hk)).trans (z16 k hk))))⟩ dX10_sum_177
                      · skip
                        have tc209 := nu_ne c209
                        have uc209 : (0 : Int32).toInt = 0 := rfl
                        omega
                    · skip
                      have tc208 := nu_ne c208
                      have uc208 : (0 : Int32).toInt = 0 := rfl
                      rw [← hQ]
                      exact en_v Z S204 F168 ⟨(z11.cell (G168 ql hql (by rw [tql]; rfl))), (fun j _ => congrFun (ai_cell ((G168 qm hqm (by rw [tqm]; rfl)).trans z12)) j), (fun j hj => ((ai_fr G168 hqd (by rw [tqd]; rfl)).trans (z13 j hj))), (fun h => absurd h (by omega)), (by omega), (fun k hk => ((p168_1 k (fw_sub (by decide) hk)).trans (z16 k hk)))⟩ dX10_sum_120
                  · skip
                    have tc203 := nu_eq c203
                    refine lv_aload_n hx hb dX10_sum_106 rfl (lv_at hl200 4 rfl) ?_
                    obtain ⟨v221, ev221, tv221⟩ : ∃ v : Int32, Int32.ofInt (3) = v ∧ v.toInt = 3 := ⟨_, rfl, by decide +kernel⟩
                    refine lv_iconst hx hb dX10_sum_107 ev221 ?_
                    refine lv_iload hx hb dX10_sum_108 (lv_at hl200 3 rfl) ?_
                    have k110 : 8 ≤ x3_8.toInt.toNat := by omega
                    refine tc_vv Z.1 Z.2.2.2.1 Z.2.2.2.2.1 Z.2.2.2.2.2 S189.1 S189.2 ha0 ta0 rfl rfl (k_X10_wrong_vr l D cy S189.2 ha0 ta0 v221 (by omega) (by omega) v172) (cwV 2 hts gX10_sum_X10_wrong rfl rfl rfl (by decide +kernel) ⟨Nat.le_of_ble_eq_true rfl, Nat.le_of_ble_eq_true rfl⟩) rfl hl200.1 rfl (Nat.le_of_ble_eq_true rfl) dX10_sum_110 ⟨Nat.zero_le _, Nat.zero_le _⟩ (fun E222 H223 k224 W222 I222 G222 p222 => ?_)
                    obtain ⟨p222_0, p222_1⟩ := p222
                    have S222 : Now D TB cy (va_A (va_pl L E) sz) s L τ E222 H223 k224 := ⟨W222, I222⟩
                    have F222 : Fr L τ (inW [(11, 0), (75, 0), (77, 0), (78, 0), (79, 0)]) E E222 := F168.trans (G222.mono (inW_mono (by decide)))
                    have w110 : (fi E222 a0 5).toInt = 3 ∧ (fi E222 a0 6).toInt = (((skI (tx E qx a0 21) (fi E a0 21).toInt.toNat (fi E_8 a0 22).toInt.toNat) : Nat) : Int) := by have q := p222_0; have z : (fi E168 a0 5).toInt = 0 := (by rw [(p168_1 5 (by decide))]; exact f5_8); omega
                    have kp_110f := fi_rng (k := 5) S222.2 ha0 ta0 rfl rfl
                    refine lv_aload_n hx hb dX10_sum_113 rfl (lv_at hl200 4 rfl) ?_
                    refine tc_vi Z.1 Z.2.2.2.1 Z.2.2.2.2.1 Z.2.2.2.2.2 S222.1 S222.2 ha0 ta0 rfl rfl (k_X10_bad l D cy S222.2 ha0 ta0) (cwV 0 hts gX10_sum_X10_bad rfl rfl rfl (by decide +kernel) ⟨Nat.le_of_ble_eq_true rfl, Nat.le_of_ble_eq_true rfl⟩) rfl hl200.1 rfl (Nat.le_of_ble_eq_true rfl) dX10_sum_114 ⟨Nat.zero_le _, Nat.zero_le _⟩ (fun v229 E226 H227 k228 W226 I226 G226 p226 => ?_)
                    obtain ⟨q226, p226_0, p226_1, p226_2⟩ := p226
                    have q226 := q226.symm
                    subst q226
                    have S226 : Now D TB cy (va_A (va_pl L E) sz) s L τ E222 H227 k228 := ⟨W226, I226⟩
                    refine lv_if_eq (tgt := 121) hx hb dX10_sum_117 (by decide) (fun c230 => ?_) (fun c230 => ?_)
                    · skip
                      have tc230 := nu_eq c230
                      have uc230 : (0 : Int32).toInt = 0 := rfl
                      omega
                    · skip
                      have tc230 := nu_ne c230
                      have uc230 : (0 : Int32).toInt = 0 := rfl
                      rw [← hQ]
                      exact en_v Z S226 F222 ⟨((z11.cell (G168 ql hql (by rw [tql]; rfl))).cell (G222 ql hql (by rw [tql]; rfl))), (fun j _ => congrFun (ai_cell (((G222 qm hqm (by rw [tqm]; rfl)).trans (G168 qm hqm (by rw [tqm]; rfl))).trans z12)) j), (fun j hj => ((ai_fr G222 hqd (by rw [tqd]; rfl)).trans ((ai_fr G168 hqd (by rw [tqd]; rfl)).trans (z13 j hj)))), (fun h => absurd h (by omega)), (by rw [← a8s, sum_bad (by rw [part_nlong (by unfold isDg; rw [← pk_31]; omega) (by rw [← nv_65]; omega) k110]; exact ne_b (by decide)), part_nlong (by unfold isDg; rw [← pk_31]; omega) (by rw [← nv_65]; omega) k110]; exact Did.bad (by decide) w110.1 w110.2), (fun k hk => ((p222_1 k (fw_sub (by decide) hk)).trans ((p168_1 k (fw_sub (by decide) hk)).trans (z16 k hk))))⟩ dX10_sum_120
                · skip
                  have tc201 := nu_ne c201
                  have uc201 : (0 : Int32).toInt = 0 := rfl
                  omega
              · skip
                have tc194 := nu_eq c194
                refine lv_aload_n hx hb dX10_sum_72 rfl (lv_at hl183 2 rfl) ?_
                obtain ⟨v231, ev231, tv231⟩ : ∃ v : Int32, Int32.ofInt (1) = v ∧ v.toInt = 1 := ⟨_, rfl, by decide +kernel⟩
                refine lv_iconst hx hb dX10_sum_73 ev231 ?_
                refine lv_aload_n hx hb dX10_sum_74 rfl (lv_at hl183 2 rfl) ?_
                refine tr_geti Z.1 Z.2.2.2.1 S189.1 S189.2 ha0 ta0 rfl rfl (fun _ h => List.mem_cons_of_mem _ (List.mem_append_right _ h)) 22 (by decide) rfl (hts _ (List.mem_of_getElem? (i := 1) rfl)) dX10_sum_75 (fun v232 ev232 lv232 uv232 => ?_)
                have wv232 : v232 = v172 := ev232.symm.trans ev172
                have xv232 : v232.toInt = v172.toInt := by rw [wv232]
                have f0_78 : (fi E168 a0 5).toInt = 0 := by rw [(p168_1 5 (by decide))]; exact f5_8
                refine tc_vv Z.1 Z.2.2.2.1 Z.2.2.2.2.1 Z.2.2.2.2.2 S189.1 S189.2 ha0 ta0 rfl rfl (k_X10_wrong_vr l D cy S189.2 ha0 ta0 v231 (by omega) (by omega) v232) (cwV 2 hts gX10_sum_X10_wrong rfl rfl rfl (by decide +kernel) ⟨Nat.le_of_ble_eq_true rfl, Nat.le_of_ble_eq_true rfl⟩) rfl hl183.1 rfl (Nat.le_of_ble_eq_true rfl) dX10_sum_78 ⟨Nat.zero_le _, Nat.zero_le _⟩ (fun E233 H234 k235 W233 I233 G233 p233 => ?_)
                obtain ⟨p233_0, p233_1⟩ := p233
                have S233 : Now D TB cy (va_A (va_pl L E) sz) s L τ E233 H234 k235 := ⟨W233, I233⟩
                have F233 : Fr L τ (inW [(11, 0), (75, 0), (77, 0), (78, 0), (79, 0)]) E E233 := F168.trans (G233.mono (inW_mono (by decide)))
                have ff_78 : (fi E233 a0 5).toInt = v231.toInt ∧ (fi E233 a0 6).toInt = v232.toInt := by rcases p233_0 with q | q; omega; exact q.2
                rw [← hQ]
                exact en_v Z S233 F233 ⟨((z11.cell (G168 ql hql (by rw [tql]; rfl))).cell (G233 ql hql (by rw [tql]; rfl))), (fun j _ => congrFun (ai_cell (((G233 qm hqm (by rw [tqm]; rfl)).trans (G168 qm hqm (by rw [tqm]; rfl))).trans z12)) j), (fun j hj => ((ai_fr G233 hqd (by rw [tqd]; rfl)).trans ((ai_fr G168 hqd (by rw [tqd]; rfl)).trans (z13 j hj)))), (fun h => absurd h (by omega)), (by rw [← a8s, sum_bad (by rw [part_no (by unfold isDg; rw [← pk_31]; omega) (by rw [← nv_65]; omega)]; exact ne_b (by decide)), part_no (by unfold isDg; rw [← pk_31]; omega) (by rw [← nv_65]; omega)]; exact Did.bad (by decide) (by omega) (by omega)), (fun k hk => ((p233_1 k (fw_sub (by decide) hk)).trans ((p168_1 k (fw_sub (by decide) hk)).trans (z16 k hk))))⟩ dX10_sum_81
          · skip
            have tc180 := nu_nlt c180
            refine lv_aload_n hx hb dX10_sum_39 rfl (lv_at hl174 1 rfl) ?_
            have fe_40a : fi E168 a0 21 = fi E a0 21 := ((p168_1 21 (by decide)).trans (z16 21 (by decide)))
            have tq_40a : tx E168 qx a0 21 = (tx E qx a0 21) := tx_same (F168 qx hqx (by rw [tqx]; rfl)) fe_40a
            have po_40a : (fi E168 a0 22).toInt = (((skI (tx E qx a0 21) (fi E a0 21).toInt.toNat (fi E_8 a0 22).toInt.toNat) : Nat) : Int) := po_21
            refine tc_vi Z.1 Z.2.2.2.1 Z.2.2.2.2.1 Z.2.2.2.2.2 S175.1 S175.2 ha0 ta0 rfl rfl (k_X10_look_vr l D cy S175.2 ha0 ta0 hqx tqx) (cwV 0 hts gX10_sum_X10_look rfl rfl rfl (by decide +kernel) ⟨Nat.le_of_ble_eq_true rfl, Nat.le_of_ble_eq_true rfl⟩) rfl hl174.1 rfl (Nat.le_of_ble_eq_true rfl) dX10_sum_40 ⟨Nat.zero_le _, Nat.zero_le _⟩ (fun v240 E237 H238 k239 W237 I237 G237 p237 => ?_)
            obtain ⟨q237, p237_0, p237_1, p237_2, p237_3⟩ := p237
            have q237 := q237.symm
            subst q237
            have S237 : Now D TB cy (va_A (va_pl L E) sz) s L τ E168 H238 k239 := ⟨W237, I237⟩
            try rw [ev172] at p237_0
            have pk_40 : v240.toInt = pkI (tx E qx a0 21) (fi E a0 21).toInt.toNat (skI (tx E qx a0 21) (fi E a0 21).toInt.toNat (fi E_8 a0 22).toInt.toNat) := by have q := p237_1; rw [tq_40a, fe_40a, show (fi E168 a0 22).toInt.toNat = (skI (tx E qx a0 21) (fi E a0 21).toInt.toNat (fi E_8 a0 22).toInt.toNat) from by omega] at q; exact q
            obtain ⟨v241, ev241, tv241⟩ : ∃ v : Int32, (Int8.ofInt (57)).toInt32 = v ∧ v.toInt = 57 := ⟨_, rfl, by decide +kernel⟩
            refine lv_bipush hx hb dX10_sum_43 ev241 ?_
            refine lv_icmp_gt (tgt := 52) hx hb dX10_sum_45 (by decide) (fun c242 => ?_) (fun c242 => ?_)
            · skip
              have tc242 := nu_lt c242
              obtain ⟨v243, ev243, tv243⟩ : ∃ v : Int32, Int32.ofInt (0) = v ∧ v.toInt = 0 := ⟨_, rfl, by decide +kernel⟩
              refine lv_iconst hx hb dX10_sum_52 ev243 ?_
              refine lv_istore (lv' := [(7, .int v243), (6, .int v172), (0, .ref a0), (1, .int a1), (2, .int a2), (3, .int x3_8), (4, .int x4_8), (5, .int x5_8)]) hx hb dX10_sum_53 hl174 (by decide) rfl (fun l244 hl245 => ?_)
              refine lv_iload hx hb dX10_sum_55 (lv_at hl245 0 rfl) ?_
              refine lv_if_ne (tgt := 82) hx hb dX10_sum_57 (by decide) (fun c246 => ?_) (fun c246 => ?_)
              · skip
                have tc246 := nu_ne c246
                have uc246 : (0 : Int32).toInt = 0 := rfl
                omega
              · skip
                have tc246 := nu_eq c246
                have uc246 : (0 : Int32).toInt = 0 := rfl
                refine lv_aload_n hx hb dX10_sum_60 rfl (lv_at hl245 2 rfl) ?_
                refine lv_aload_n hx hb dX10_sum_61 rfl (lv_at hl245 2 rfl) ?_
                have fe_62a : fi E168 a0 21 = fi E a0 21 := ((p168_1 21 (by decide)).trans (z16 21 (by decide)))
                have tq_62a : tx E168 qx a0 21 = (tx E qx a0 21) := tx_same (F168 qx hqx (by rw [tqx]; rfl)) fe_62a
                have po_62a : (fi E168 a0 22).toInt = (((skI (tx E qx a0 21) (fi E a0 21).toInt.toNat (fi E_8 a0 22).toInt.toNat) : Nat) : Int) := po_21
                refine tc_vl Z.1 Z.2.2.2.1 Z.2.2.2.2.1 Z.2.2.2.2.2 S237.1 S237.2 ha0 ta0 rfl rfl (k_X10_wordAt_vr l D cy S237.2 ha0 ta0 hqx tqx) (cwV 0 hts gX10_sum_X10_wordAt rfl rfl rfl (by decide +kernel) ⟨Nat.le_of_ble_eq_true rfl, Nat.le_of_ble_eq_true rfl⟩) rfl hl245.1 rfl (Nat.le_of_ble_eq_true rfl) dX10_sum_62 ⟨Nat.zero_le _, Nat.zero_le _⟩ (fun v250 E247 H248 k249 W247 I247 G247 p247 => ?_)
                obtain ⟨q247, p247_0⟩ := p247
                have q247 := q247.symm
                subst q247
                have S247 : Now D TB cy (va_A (va_pl L E) sz) s L τ E168 H248 k249 := ⟨W247, I247⟩
                refine tc_vi Z.1 Z.2.2.2.1 Z.2.2.2.2.1 Z.2.2.2.2.2 S247.1 S247.2 ha0 ta0 rfl rfl (k_X10_nameOf_vr l D cy S247.2 ha0 ta0 v250) (cwV 1 hts gX10_sum_X10_nameOf rfl rfl rfl (by decide +kernel) ⟨Nat.le_of_ble_eq_true rfl, Nat.le_of_ble_eq_true rfl⟩) rfl hl245.1 rfl (Nat.le_of_ble_eq_true rfl) dX10_sum_65 ⟨Nat.zero_le _, Nat.zero_le _⟩ (fun v254 E251 H252 k253 W251 I251 G251 p251 => ?_)
                obtain ⟨q251, p251_0, p251_1, p251_2⟩ := p251
                have q251 := q251.symm
                subst q251
                have S251 : Now D TB cy (va_A (va_pl L E) sz) s L τ E168 H252 k253 := ⟨W251, I251⟩
                have wd_62 : v250.toInt = wdI (tx E qx a0 21) (fi E a0 21).toInt.toNat (skI (tx E qx a0 21) (fi E a0 21).toInt.toNat (fi E_8 a0 22).toInt.toNat) := by have q := p247_0; rw [tq_62a, fe_62a, show (fi E168 a0 22).toInt.toNat = (skI (tx E qx a0 21) (fi E a0 21).toInt.toNat (fi E_8 a0 22).toInt.toNat) from by omega] at q; exact q
                have nv_65 : v254.toInt = nmV (wdI (tx E qx a0 21) (fi E a0 21).toInt.toNat (skI (tx E qx a0 21) (fi E a0 21).toInt.toNat (fi E_8 a0 22).toInt.toNat)) := by rw [← wd_62]; exact p251_0
                obtain ⟨v255, ev255, tv255⟩ : ∃ v : Int32, Int32.ofInt (-1) = v ∧ v.toInt = -1 := ⟨_, rfl, by decide +kernel⟩
                refine lv_iconst hx hb dX10_sum_68 ev255 ?_
                refine lv_icmp_ne (tgt := 82) hx hb dX10_sum_69 (by decide) (fun c256 => ?_) (fun c256 => ?_)
                · skip
                  have tc256 := nu_ne c256
                  obtain ⟨v257, ev257, tv257⟩ : ∃ v : Int32, Int32.ofInt (1) = v ∧ v.toInt = 1 := ⟨_, rfl, by decide +kernel⟩
                  refine lv_iconst hx hb dX10_sum_82 ev257 ?_
                  refine lv_istore (lv' := [(8, .int v257), (7, .int v243), (6, .int v172), (0, .ref a0), (1, .int a1), (2, .int a2), (3, .int x3_8), (4, .int x4_8), (5, .int x5_8)]) hx hb dX10_sum_83 hl245 (by decide) rfl (fun l258 hl259 => ?_)
                  obtain ⟨v260, ev260, tv260⟩ : ∃ v : Int32, (Int8.ofInt (8)).toInt32 = v ∧ v.toInt = 8 := ⟨_, rfl, by decide +kernel⟩
                  refine lv_bipush hx hb dX10_sum_85 ev260 ?_
                  refine lv_istore (lv' := [(9, .int v260), (8, .int v257), (7, .int v243), (6, .int v172), (0, .ref a0), (1, .int a1), (2, .int a2), (3, .int x3_8), (4, .int x4_8), (5, .int x5_8)]) hx hb dX10_sum_87 hl259 (by decide) rfl (fun l261 hl262 => ?_)
                  refine lv_iload hx hb dX10_sum_89 (lv_at hl262 2 rfl) ?_
                  refine lv_if_eq (tgt := 100) hx hb dX10_sum_91 (by decide) (fun c263 => ?_) (fun c263 => ?_)
                  · skip
                    have tc263 := nu_eq c263
                    have uc263 : (0 : Int32).toInt = 0 := rfl
                    refine lv_iload_n hx hb dX10_sum_100 rfl (lv_at hl262 7 rfl) ?_
                    obtain ⟨v264, ev264, tv264⟩ : ∃ v : Int32, (Int8.ofInt (8)).toInt32 = v ∧ v.toInt = 8 := ⟨_, rfl, by decide +kernel⟩
                    refine lv_bipush hx hb dX10_sum_101 ev264 ?_
                    refine lv_icmp_ne (tgt := 113) hx hb dX10_sum_103 (by decide) (fun c265 => ?_) (fun c265 => ?_)
                    · skip
                      have tc265 := nu_ne c265
                      refine lv_aload_n hx hb dX10_sum_113 rfl (lv_at hl262 4 rfl) ?_
                      refine tc_vi Z.1 Z.2.2.2.1 Z.2.2.2.2.1 Z.2.2.2.2.2 S251.1 S251.2 ha0 ta0 rfl rfl (k_X10_bad l D cy S251.2 ha0 ta0) (cwV 0 hts gX10_sum_X10_bad rfl rfl rfl (by decide +kernel) ⟨Nat.le_of_ble_eq_true rfl, Nat.le_of_ble_eq_true rfl⟩) rfl hl262.1 rfl (Nat.le_of_ble_eq_true rfl) dX10_sum_114 ⟨Nat.zero_le _, Nat.zero_le _⟩ (fun v269 E266 H267 k268 W266 I266 G266 p266 => ?_)
                      obtain ⟨q266, p266_0, p266_1, p266_2⟩ := p266
                      have q266 := q266.symm
                      subst q266
                      have S266 : Now D TB cy (va_A (va_pl L E) sz) s L τ E168 H267 k268 := ⟨W266, I266⟩
                      try rw [((p168_1 5 (by decide)).trans rfl)] at p266_0
                      refine lv_if_eq (tgt := 121) hx hb dX10_sum_117 (by decide) (fun c270 => ?_) (fun c270 => ?_)
                      · skip
                        have tc270 := nu_eq c270
                        have uc270 : (0 : Int32).toInt = 0 := rfl
                        have f0_121 : (fi E168 a0 5).toInt = 0 := by rw [(p168_1 5 (by decide))]; exact f5_8
                        refine lv_iload hx hb dX10_sum_121 (lv_at hl262 2 rfl) ?_
                        refine lv_if_eq (tgt := 163) hx hb dX10_sum_123 (by decide) (fun c271 => ?_) (fun c271 => ?_)
                        · skip
                          have tc271 := nu_eq c271
                          have uc271 : (0 : Int32).toInt = 0 := rfl
                          refine lv_aload_n hx hb dX10_sum_163 rfl (lv_at hl262 4 rfl) ?_
                          refine lv_iload_n hx hb dX10_sum_164 rfl (lv_at hl262 5 rfl) ?_
                          have fe_165a : fi E168 a0 21 = fi E a0 21 := ((p168_1 21 (by decide)).trans (z16 21 (by decide)))
                          have tq_165a : tx E168 qx a0 21 = (tx E qx a0 21) := tx_same (F168 qx hqx (by rw [tqx]; rfl)) fe_165a
                          have po_165a : (fi E168 a0 22).toInt = (((skI (tx E qx a0 21) (fi E a0 21).toInt.toNat (fi E_8 a0 22).toInt.toNat) : Nat) : Int) := po_21
                          have f0_165 : (fi E168 a0 5).toInt = 0 := by rw [(p168_1 5 (by decide))]; exact f5_8
                          refine tc_vi Z.1 Z.2.2.2.1 Z.2.2.2.2.1 Z.2.2.2.2.2 S266.1 S266.2 ha0 ta0 rfl rfl (k_X10_name_vr l D cy S266.2 ha0 ta0 a1 (by omega) (by omega) hql tql hqx tqx f0_165) (cwV 1 hts gX10_sum_X10_name rfl rfl rfl (by decide +kernel) ⟨Nat.le_of_ble_eq_true rfl, Nat.le_of_ble_eq_true rfl⟩) rfl hl262.1 rfl (Nat.le_of_ble_eq_true rfl) dX10_sum_165 ⟨Nat.zero_le _, Nat.zero_le _⟩ (fun v275 E272 H273 k274 W272 I272 G272 p272 => ?_)
                          obtain ⟨p272_0, p272_1, p272_2, p272_3, p272_4, p272_5⟩ := p272
                          have S272 : Now D TB cy (va_A (va_pl L E) sz) s L τ E272 H273 k274 := ⟨W272, I272⟩
                          have F272 : Fr L τ (inW [(11, 0), (75, 0), (77, 0), (78, 0), (79, 0)]) E E272 := F168.trans (G272.mono (inW_mono (by decide)))
                          have nr_165 : (nmV (wdI (tx E qx a0 21) (fi E a0 21).toInt.toNat (skI (tx E qx a0 21) (fi E a0 21).toInt.toNat (fi E_8 a0 22).toInt.toNat)) = -1 ∧ (fi E272 a0 5).toInt = 1 ∧ (fi E272 a0 6).toInt = (((skI (tx E qx a0 21) (fi E a0 21).toInt.toNat (fi E_8 a0 22).toInt.toNat) : Nat) : Int)) ∨ (nmV (wdI (tx E qx a0 21) (fi E a0 21).toInt.toNat (skI (tx E qx a0 21) (fi E a0 21).toInt.toNat (fi E_8 a0 22).toInt.toNat)) ≠ -1 ∧ (fi E272 a0 5).toInt = 0 ∧ (fi E272 a0 22).toInt = ((nameE (tx E qx a0 21) (fi E a0 21).toInt.toNat (skI (tx E qx a0 21) (fi E a0 21).toInt.toNat (fi E_8 a0 22).toInt.toNat) : Nat) : Int)) := by have q := p272_2; rw [tq_165a, fe_165a, show (fi E168 a0 22).toInt.toNat = (skI (tx E qx a0 21) (fi E a0 21).toInt.toNat (fi E_8 a0 22).toInt.toNat) from by omega] at q; omega
                          have kp_165f := fi_rng (k := 5) S272.2 ha0 ta0 rfl rfl
                          have kp_165p := fi_rng (k := 22) S272.2 ha0 ta0 rfl rfl
                          refine lv_istore (lv' := [(9, .int v275), (8, .int v257), (7, .int v243), (6, .int v172), (0, .ref a0), (1, .int a1), (2, .int a2), (3, .int x3_8), (4, .int x4_8), (5, .int x5_8)]) hx hb dX10_sum_168 hl262 (by decide) rfl (fun l276 hl277 => ?_)
                          refine lv_aload_n hx hb dX10_sum_170 rfl (lv_at hl277 4 rfl) ?_
                          refine tc_vi Z.1 Z.2.2.2.1 Z.2.2.2.2.1 Z.2.2.2.2.2 S272.1 S272.2 ha0 ta0 rfl rfl (k_X10_bad l D cy S272.2 ha0 ta0) (cwV 0 hts gX10_sum_X10_bad rfl rfl rfl (by decide +kernel) ⟨Nat.le_of_ble_eq_true rfl, Nat.le_of_ble_eq_true rfl⟩) rfl hl277.1 rfl (Nat.le_of_ble_eq_true rfl) dX10_sum_171 ⟨Nat.zero_le _, Nat.zero_le _⟩ (fun v281 E278 H279 k280 W278 I278 G278 p278 => ?_)
                          obtain ⟨q278, p278_0, p278_1, p278_2⟩ := p278
                          have q278 := q278.symm
                          subst q278
                          have S278 : Now D TB cy (va_A (va_pl L E) sz) s L τ E272 H279 k280 := ⟨W278, I278⟩
                          refine lv_if_eq (tgt := 178) hx hb dX10_sum_174 (by decide) (fun c282 => ?_) (fun c282 => ?_)
                          · skip
                            have tc282 := nu_eq c282
                            have uc282 : (0 : Int32).toInt = 0 := rfl
                            have no_165 : nmV (wdI (tx E qx a0 21) (fi E a0 21).toInt.toNat (skI (tx E qx a0 21) (fi E a0 21).toInt.toNat (fi E_8 a0 22).toInt.toNat)) ≠ -1 ∧ (fi E272 a0 22).toInt = ((nameE (tx E qx a0 21) (fi E a0 21).toInt.toNat (skI (tx E qx a0 21) (fi E a0 21).toInt.toNat (fi E_8 a0 22).toInt.toNat) : Nat) : Int) := by rcases nr_165 with q | q; omega; exact ⟨q.1, q.2.2⟩
                            have pe_178 : (partI (tx E qx a0 21) (fi E a0 21).toInt.toNat x3_8.toInt.toNat (skI (tx E qx a0 21) (fi E a0 21).toInt.toNat (fi E_8 a0 22).toInt.toNat)) = (0, -1, (nameE (tx E qx a0 21) (fi E a0 21).toInt.toNat (skI (tx E qx a0 21) (fi E a0 21).toInt.toNat (fi E_8 a0 22).toInt.toNat))) := by rw [part_name (by unfold isDg; have q := pk_31; have w := pk_40; omega) no_165.1 (by omega)]
                            have r0_178 : (partI (tx E qx a0 21) (fi E a0 21).toInt.toNat x3_8.toInt.toNat (skI (tx E qx a0 21) (fi E a0 21).toInt.toNat (fi E_8 a0 22).toInt.toNat)).1 = 0 := by rw [pe_178]
                            have r2_178 : (partI (tx E qx a0 21) (fi E a0 21).toInt.toNat x3_8.toInt.toNat (skI (tx E qx a0 21) (fi E a0 21).toInt.toNat (fi E_8 a0 22).toInt.toNat)).2.2 = (nameE (tx E qx a0 21) (fi E a0 21).toInt.toNat (skI (tx E qx a0 21) (fi E a0 21).toInt.toNat (fi E_8 a0 22).toInt.toNat)) := by rw [pe_178]
                            have k8_178 : x3_8.toInt ≤ 7 := by have q8 : ¬ 8 ≤ x3_8.toInt.toNat := fun z => part8 (B := (tx E qx a0 21)) (n := (fi E a0 21).toInt.toNat) (s := (skI (tx E qx a0 21) (fi E a0 21).toInt.toNat (fi E_8 a0 22).toInt.toNat)) z r0_178; omega
                            have f0_178 : (fi E272 a0 5).toInt = 0 := by omega
                            exact J178 v257 v275 E272 H279 k280 l276 S278 F272 (by omega) (by omega) (by omega) (by omega) (by omega) (by omega) (by omega) (by omega) (by omega) (by omega) ((z11.cell (G168 ql hql (by rw [tql]; rfl))).trans p272_0) (((G272 qm hqm (by rw [tqm]; rfl)).trans (G168 qm hqm (by rw [tqm]; rfl))).trans z12) (fun j hj => ((ai_fr G272 hqd (by rw [tqd]; rfl)).trans ((ai_fr G168 hqd (by rw [tqd]; rfl)).trans (z13 j hj)))) (z14.keep (((Grow.refl (s := a1.toInt.toNat)).cell (G168 ql hql (by rw [tql]; rfl))).trans p272_0) ((G272 qd hqd (by rw [tqd]; rfl)).trans (G168 qd hqd (by rw [tqd]; rfl)))) p272_1 ⟨f0_178, r0_178, (by rw [r2_178]; exact no_165.2), k8_178, a8s, by omega⟩ (fun k hk => ((p272_5 k (fw_sub (by decide) hk)).trans ((p168_1 k (fw_sub (by decide) hk)).trans (z16 k hk)))) (by omega) (by rw [((p272_5 21 (by decide)).trans ((p168_1 21 (by decide)).trans rfl))]; omega) (by omega) (lv_sub hl277 [4, 5, 6, 7, 8, 1, 0] rfl)
                          · skip
                            have tc282 := nu_ne c282
                            have uc282 : (0 : Int32).toInt = 0 := rfl
                            rw [← hQ]
                            exact en_v Z S278 F272 ⟨((z11.cell (G168 ql hql (by rw [tql]; rfl))).trans p272_0), (fun j _ => congrFun (ai_cell (((G272 qm hqm (by rw [tqm]; rfl)).trans (G168 qm hqm (by rw [tqm]; rfl))).trans z12)) j), (fun j hj => ((ai_fr G272 hqd (by rw [tqd]; rfl)).trans ((ai_fr G168 hqd (by rw [tqd]; rfl)).trans (z13 j hj)))), (fun h => absurd h (by omega)), (by rcases nr_165 with q | q; exact absurd q.1 (by rw [← nv_65]; omega); omega), (fun k hk => ((p272_5 k (fw_sub (by decide) hk)).trans ((p168_1 k (fw_sub (by decide) hk)).trans (z16 k hk))))⟩ dX10_sum_177
                        · skip
                          have tc271 := nu_ne c271
                          have uc271 : (0 : Int32).toInt = 0 := rfl
                          omega
                      · skip
                        have tc270 := nu_ne c270
                        have uc270 : (0 : Int32).toInt = 0 := rfl
                        rw [← hQ]
                        exact en_v Z S266 F168 ⟨(z11.cell (G168 ql hql (by rw [tql]; rfl))), (fun j _ => congrFun (ai_cell ((G168 qm hqm (by rw [tqm]; rfl)).trans z12)) j), (fun j hj => ((ai_fr G168 hqd (by rw [tqd]; rfl)).trans (z13 j hj))), (fun h => absurd h (by omega)), (by omega), (fun k hk => ((p168_1 k (fw_sub (by decide) hk)).trans (z16 k hk)))⟩ dX10_sum_120
                    · skip
                      have tc265 := nu_eq c265
                      refine lv_aload_n hx hb dX10_sum_106 rfl (lv_at hl262 4 rfl) ?_
                      obtain ⟨v283, ev283, tv283⟩ : ∃ v : Int32, Int32.ofInt (3) = v ∧ v.toInt = 3 := ⟨_, rfl, by decide +kernel⟩
                      refine lv_iconst hx hb dX10_sum_107 ev283 ?_
                      refine lv_iload hx hb dX10_sum_108 (lv_at hl262 3 rfl) ?_
                      have k110 : 8 ≤ x3_8.toInt.toNat := by omega
                      refine tc_vv Z.1 Z.2.2.2.1 Z.2.2.2.2.1 Z.2.2.2.2.2 S251.1 S251.2 ha0 ta0 rfl rfl (k_X10_wrong_vr l D cy S251.2 ha0 ta0 v283 (by omega) (by omega) v172) (cwV 2 hts gX10_sum_X10_wrong rfl rfl rfl (by decide +kernel) ⟨Nat.le_of_ble_eq_true rfl, Nat.le_of_ble_eq_true rfl⟩) rfl hl262.1 rfl (Nat.le_of_ble_eq_true rfl) dX10_sum_110 ⟨Nat.zero_le _, Nat.zero_le _⟩ (fun E284 H285 k286 W284 I284 G284 p284 => ?_)
                      obtain ⟨p284_0, p284_1⟩ := p284
                      have S284 : Now D TB cy (va_A (va_pl L E) sz) s L τ E284 H285 k286 := ⟨W284, I284⟩
                      have F284 : Fr L τ (inW [(11, 0), (75, 0), (77, 0), (78, 0), (79, 0)]) E E284 := F168.trans (G284.mono (inW_mono (by decide)))
                      have w110 : (fi E284 a0 5).toInt = 3 ∧ (fi E284 a0 6).toInt = (((skI (tx E qx a0 21) (fi E a0 21).toInt.toNat (fi E_8 a0 22).toInt.toNat) : Nat) : Int) := by have q := p284_0; have z : (fi E168 a0 5).toInt = 0 := (by rw [(p168_1 5 (by decide))]; exact f5_8); omega
                      have kp_110f := fi_rng (k := 5) S284.2 ha0 ta0 rfl rfl
                      refine lv_aload_n hx hb dX10_sum_113 rfl (lv_at hl262 4 rfl) ?_
                      refine tc_vi Z.1 Z.2.2.2.1 Z.2.2.2.2.1 Z.2.2.2.2.2 S284.1 S284.2 ha0 ta0 rfl rfl (k_X10_bad l D cy S284.2 ha0 ta0) (cwV 0 hts gX10_sum_X10_bad rfl rfl rfl (by decide +kernel) ⟨Nat.le_of_ble_eq_true rfl, Nat.le_of_ble_eq_true rfl⟩) rfl hl262.1 rfl (Nat.le_of_ble_eq_true rfl) dX10_sum_114 ⟨Nat.zero_le _, Nat.zero_le _⟩ (fun v291 E288 H289 k290 W288 I288 G288 p288 => ?_)
                      obtain ⟨q288, p288_0, p288_1, p288_2⟩ := p288
                      have q288 := q288.symm
                      subst q288
                      have S288 : Now D TB cy (va_A (va_pl L E) sz) s L τ E284 H289 k290 := ⟨W288, I288⟩
                      refine lv_if_eq (tgt := 121) hx hb dX10_sum_117 (by decide) (fun c292 => ?_) (fun c292 => ?_)
                      · skip
                        have tc292 := nu_eq c292
                        have uc292 : (0 : Int32).toInt = 0 := rfl
                        omega
                      · skip
                        have tc292 := nu_ne c292
                        have uc292 : (0 : Int32).toInt = 0 := rfl
                        rw [← hQ]
                        exact en_v Z S288 F284 ⟨((z11.cell (G168 ql hql (by rw [tql]; rfl))).cell (G284 ql hql (by rw [tql]; rfl))), (fun j _ => congrFun (ai_cell (((G284 qm hqm (by rw [tqm]; rfl)).trans (G168 qm hqm (by rw [tqm]; rfl))).trans z12)) j), (fun j hj => ((ai_fr G284 hqd (by rw [tqd]; rfl)).trans ((ai_fr G168 hqd (by rw [tqd]; rfl)).trans (z13 j hj)))), (fun h => absurd h (by omega)), (by rw [← a8s, sum_bad (by rw [part_nlong (by unfold isDg; have q := pk_31; have w := pk_40; omega) (by rw [← nv_65]; omega) k110]; exact ne_b (by decide)), part_nlong (by unfold isDg; have q := pk_31; have w := pk_40; omega) (by rw [← nv_65]; omega) k110]; exact Did.bad (by decide) w110.1 w110.2), (fun k hk => ((p284_1 k (fw_sub (by decide) hk)).trans ((p168_1 k (fw_sub (by decide) hk)).trans (z16 k hk))))⟩ dX10_sum_120
                  · skip
                    have tc263 := nu_ne c263
                    have uc263 : (0 : Int32).toInt = 0 := rfl
                    omega
                · skip
                  have tc256 := nu_eq c256
                  refine lv_aload_n hx hb dX10_sum_72 rfl (lv_at hl245 2 rfl) ?_
                  obtain ⟨v293, ev293, tv293⟩ : ∃ v : Int32, Int32.ofInt (1) = v ∧ v.toInt = 1 := ⟨_, rfl, by decide +kernel⟩
                  refine lv_iconst hx hb dX10_sum_73 ev293 ?_
                  refine lv_aload_n hx hb dX10_sum_74 rfl (lv_at hl245 2 rfl) ?_
                  refine tr_geti Z.1 Z.2.2.2.1 S251.1 S251.2 ha0 ta0 rfl rfl (fun _ h => List.mem_cons_of_mem _ (List.mem_append_right _ h)) 22 (by decide) rfl (hts _ (List.mem_of_getElem? (i := 1) rfl)) dX10_sum_75 (fun v294 ev294 lv294 uv294 => ?_)
                  have wv294 : v294 = v172 := ev294.symm.trans ev172
                  have xv294 : v294.toInt = v172.toInt := by rw [wv294]
                  have f0_78 : (fi E168 a0 5).toInt = 0 := by rw [(p168_1 5 (by decide))]; exact f5_8
                  refine tc_vv Z.1 Z.2.2.2.1 Z.2.2.2.2.1 Z.2.2.2.2.2 S251.1 S251.2 ha0 ta0 rfl rfl (k_X10_wrong_vr l D cy S251.2 ha0 ta0 v293 (by omega) (by omega) v294) (cwV 2 hts gX10_sum_X10_wrong rfl rfl rfl (by decide +kernel) ⟨Nat.le_of_ble_eq_true rfl, Nat.le_of_ble_eq_true rfl⟩) rfl hl245.1 rfl (Nat.le_of_ble_eq_true rfl) dX10_sum_78 ⟨Nat.zero_le _, Nat.zero_le _⟩ (fun E295 H296 k297 W295 I295 G295 p295 => ?_)
                  obtain ⟨p295_0, p295_1⟩ := p295
                  have S295 : Now D TB cy (va_A (va_pl L E) sz) s L τ E295 H296 k297 := ⟨W295, I295⟩
                  have F295 : Fr L τ (inW [(11, 0), (75, 0), (77, 0), (78, 0), (79, 0)]) E E295 := F168.trans (G295.mono (inW_mono (by decide)))
                  have ff_78 : (fi E295 a0 5).toInt = v293.toInt ∧ (fi E295 a0 6).toInt = v294.toInt := by rcases p295_0 with q | q; omega; exact q.2
                  rw [← hQ]
                  exact en_v Z S295 F295 ⟨((z11.cell (G168 ql hql (by rw [tql]; rfl))).cell (G295 ql hql (by rw [tql]; rfl))), (fun j _ => congrFun (ai_cell (((G295 qm hqm (by rw [tqm]; rfl)).trans (G168 qm hqm (by rw [tqm]; rfl))).trans z12)) j), (fun j hj => ((ai_fr G295 hqd (by rw [tqd]; rfl)).trans ((ai_fr G168 hqd (by rw [tqd]; rfl)).trans (z13 j hj)))), (fun h => absurd h (by omega)), (by rw [← a8s, sum_bad (by rw [part_no (by unfold isDg; have q := pk_31; have w := pk_40; omega) (by rw [← nv_65]; omega)]; exact ne_b (by decide)), part_no (by unfold isDg; have q := pk_31; have w := pk_40; omega) (by rw [← nv_65]; omega)]; exact Did.bad (by decide) (by omega) (by omega)), (fun k hk => ((p295_1 k (fw_sub (by decide) hk)).trans ((p168_1 k (fw_sub (by decide) hk)).trans (z16 k hk))))⟩ dX10_sum_81
            · skip
              have tc242 := nu_nlt c242
              obtain ⟨v299, ev299, tv299⟩ : ∃ v : Int32, Int32.ofInt (1) = v ∧ v.toInt = 1 := ⟨_, rfl, by decide +kernel⟩
              refine lv_iconst hx hb dX10_sum_48 ev299 ?_
              refine lv_goto (tgt := 53) hx hb dX10_sum_49 (by decide) ?_
              refine lv_istore (lv' := [(7, .int v299), (6, .int v172), (0, .ref a0), (1, .int a1), (2, .int a2), (3, .int x3_8), (4, .int x4_8), (5, .int x5_8)]) hx hb dX10_sum_53 hl174 (by decide) rfl (fun l300 hl301 => ?_)
              refine lv_iload hx hb dX10_sum_55 (lv_at hl301 0 rfl) ?_
              refine lv_if_ne (tgt := 82) hx hb dX10_sum_57 (by decide) (fun c302 => ?_) (fun c302 => ?_)
              · skip
                have tc302 := nu_ne c302
                have uc302 : (0 : Int32).toInt = 0 := rfl
                obtain ⟨v303, ev303, tv303⟩ : ∃ v : Int32, Int32.ofInt (1) = v ∧ v.toInt = 1 := ⟨_, rfl, by decide +kernel⟩
                refine lv_iconst hx hb dX10_sum_82 ev303 ?_
                refine lv_istore (lv' := [(8, .int v303), (7, .int v299), (6, .int v172), (0, .ref a0), (1, .int a1), (2, .int a2), (3, .int x3_8), (4, .int x4_8), (5, .int x5_8)]) hx hb dX10_sum_83 hl301 (by decide) rfl (fun l304 hl305 => ?_)
                obtain ⟨v306, ev306, tv306⟩ : ∃ v : Int32, (Int8.ofInt (8)).toInt32 = v ∧ v.toInt = 8 := ⟨_, rfl, by decide +kernel⟩
                refine lv_bipush hx hb dX10_sum_85 ev306 ?_
                refine lv_istore (lv' := [(9, .int v306), (8, .int v303), (7, .int v299), (6, .int v172), (0, .ref a0), (1, .int a1), (2, .int a2), (3, .int x3_8), (4, .int x4_8), (5, .int x5_8)]) hx hb dX10_sum_87 hl305 (by decide) rfl (fun l307 hl308 => ?_)
                refine lv_iload hx hb dX10_sum_89 (lv_at hl308 2 rfl) ?_
                refine lv_if_eq (tgt := 100) hx hb dX10_sum_91 (by decide) (fun c309 => ?_) (fun c309 => ?_)
                · skip
                  have tc309 := nu_eq c309
                  have uc309 : (0 : Int32).toInt = 0 := rfl
                  omega
                · skip
                  have tc309 := nu_ne c309
                  have uc309 : (0 : Int32).toInt = 0 := rfl
                  refine lv_aload_n hx hb dX10_sum_94 rfl (lv_at hl308 4 rfl) ?_
                  have fe_95a : fi E168 a0 21 = fi E a0 21 := ((p168_1 21 (by decide)).trans (z16 21 (by decide)))
                  have tq_95a : tx E168 qx a0 21 = (tx E qx a0 21) := tx_same (F168 qx hqx (by rw [tqx]; rfl)) fe_95a
                  have po_95a : (fi E168 a0 22).toInt = (((skI (tx E qx a0 21) (fi E a0 21).toInt.toNat (fi E_8 a0 22).toInt.toNat) : Nat) : Int) := po_21
                  have f0_95 : (fi E168 a0 5).toInt = 0 := by rw [(p168_1 5 (by decide))]; exact f5_8
                  refine tc_vi Z.1 Z.2.2.2.1 Z.2.2.2.2.1 Z.2.2.2.2.2 S237.1 S237.2 ha0 ta0 rfl rfl (k_X10_digits_vr l D cy S237.2 ha0 ta0 hqx tqx f0_95) (cwV 0 hts gX10_sum_X10_digits rfl rfl rfl (by decide +kernel) ⟨Nat.le_of_ble_eq_true rfl, Nat.le_of_ble_eq_true rfl⟩) rfl hl308.1 rfl (Nat.le_of_ble_eq_true rfl) dX10_sum_95 ⟨Nat.zero_le _, Nat.zero_le _⟩ (fun v313 E310 H311 k312 W310 I310 G310 p310 => ?_)
                  obtain ⟨p310_0, p310_1, p310_2⟩ := p310
                  have S310 : Now D TB cy (va_A (va_pl L E) sz) s L τ E310 H311 k312 := ⟨W310, I310⟩
                  have F310 : Fr L τ (inW [(11, 0), (75, 0), (77, 0), (78, 0), (79, 0)]) E E310 := F168.trans (G310.mono (inW_mono (by decide)))
                  have po_95 : (fi E310 a0 22).toInt = (((dgI (tx E qx a0 21) (fi E a0 21).toInt.toNat (skI (tx E qx a0 21) (fi E a0 21).toInt.toNat (fi E_8 a0 22).toInt.toNat)) : Nat) : Int) := by have q := p310_0; rw [tq_95a, fe_95a, show (fi E168 a0 22).toInt.toNat = (skI (tx E qx a0 21) (fi E a0 21).toInt.toNat (fi E_8 a0 22).toInt.toNat) from by omega] at q; exact q
                  have kp_95 := fi_rng (k := 22) S310.2 ha0 ta0 rfl rfl
                  have dg_95 : (9999 < dvI (tx E qx a0 21) (fi E a0 21).toInt.toNat (skI (tx E qx a0 21) (fi E a0 21).toInt.toNat (fi E_8 a0 22).toInt.toNat) 0 ∧ (fi E310 a0 5).toInt = 2 ∧ (fi E310 a0 6).toInt = (((skI (tx E qx a0 21) (fi E a0 21).toInt.toNat (fi E_8 a0 22).toInt.toNat) : Nat) : Int)) ∨ (dvI (tx E qx a0 21) (fi E a0 21).toInt.toNat (skI (tx E qx a0 21) (fi E a0 21).toInt.toNat (fi E_8 a0 22).toInt.toNat) 0 ≤ 9999 ∧ (fi E310 a0 5).toInt = 0) := by have q := p310_1; rw [tq_95a, fe_95a, show (fi E168 a0 22).toInt.toNat = (skI (tx E qx a0 21) (fi E a0 21).toInt.toNat (fi E_8 a0 22).toInt.toNat) from by omega] at q; omega
                  have kp_95f := fi_rng (k := 5) S310.2 ha0 ta0 rfl rfl
                  refine lv_istore (lv' := [(8, .int v313), (9, .int v306), (7, .int v299), (6, .int v172), (0, .ref a0), (1, .int a1), (2, .int a2), (3, .int x3_8), (4, .int x4_8), (5, .int x5_8)]) hx hb dX10_sum_98 hl308 (by decide) rfl (fun l314 hl315 => ?_)
                  refine lv_iload_n hx hb dX10_sum_100 rfl (lv_at hl315 7 rfl) ?_
                  obtain ⟨v316, ev316, tv316⟩ : ∃ v : Int32, (Int8.ofInt (8)).toInt32 = v ∧ v.toInt = 8 := ⟨_, rfl, by decide +kernel⟩
                  refine lv_bipush hx hb dX10_sum_101 ev316 ?_
                  refine lv_icmp_ne (tgt := 113) hx hb dX10_sum_103 (by decide) (fun c317 => ?_) (fun c317 => ?_)
                  · skip
                    have tc317 := nu_ne c317
                    refine lv_aload_n hx hb dX10_sum_113 rfl (lv_at hl315 4 rfl) ?_
                    refine tc_vi Z.1 Z.2.2.2.1 Z.2.2.2.2.1 Z.2.2.2.2.2 S310.1 S310.2 ha0 ta0 rfl rfl (k_X10_bad l D cy S310.2 ha0 ta0) (cwV 0 hts gX10_sum_X10_bad rfl rfl rfl (by decide +kernel) ⟨Nat.le_of_ble_eq_true rfl, Nat.le_of_ble_eq_true rfl⟩) rfl hl315.1 rfl (Nat.le_of_ble_eq_true rfl) dX10_sum_114 ⟨Nat.zero_le _, Nat.zero_le _⟩ (fun v321 E318 H319 k320 W318 I318 G318 p318 => ?_)
                    obtain ⟨q318, p318_0, p318_1, p318_2⟩ := p318
                    have q318 := q318.symm
                    subst q318
                    have S318 : Now D TB cy (va_A (va_pl L E) sz) s L τ E310 H319 k320 := ⟨W318, I318⟩
                    refine lv_if_eq (tgt := 121) hx hb dX10_sum_117 (by decide) (fun c322 => ?_) (fun c322 => ?_)
                    · skip
                      have tc322 := nu_eq c322
                      have uc322 : (0 : Int32).toInt = 0 := rfl
                      have f0_121 : (fi E310 a0 5).toInt = 0 := by omega
                      refine lv_iload hx hb dX10_sum_121 (lv_at hl315 2 rfl) ?_
                      refine lv_if_eq (tgt := 163) hx hb dX10_sum_123 (by decide) (fun c323 => ?_) (fun c323 => ?_)
                      · skip
                        have tc323 := nu_eq c323
                        have uc323 : (0 : Int32).toInt = 0 := rfl
                        omega
                      · skip
                        have tc323 := nu_ne c323
                        have uc323 : (0 : Int32).toInt = 0 := rfl
                        refine lv_aload_n hx hb dX10_sum_126 rfl (lv_at hl315 4 rfl) ?_
                        have fe_127a : fi E310 a0 21 = fi E a0 21 := (((p310_2 21 (by decide)).trans (p168_1 21 (by decide))).trans (z16 21 (by decide)))
                        have tq_127a : tx E310 qx a0 21 = (tx E qx a0 21) := tx_same (F310 qx hqx (by rw [tqx]; rfl)) fe_127a
                        have po_127a : (fi E310 a0 22).toInt = (((dgI (tx E qx a0 21) (fi E a0 21).toInt.toNat (skI (tx E qx a0 21) (fi E a0 21).toInt.toNat (fi E_8 a0 22).toInt.toNat)) : Nat) : Int) := po_95
                        refine tc_vv Z.1 Z.2.2.2.1 Z.2.2.2.2.1 Z.2.2.2.2.2 S318.1 S318.2 ha0 ta0 rfl rfl (k_X10_blanks_vr l D cy S318.2 ha0 ta0 hqx tqx) (cwV 0 hts gX10_sum_X10_blanks rfl rfl rfl (by decide +kernel) ⟨Nat.le_of_ble_eq_true rfl, Nat.le_of_ble_eq_true rfl⟩) rfl hl315.1 rfl (Nat.le_of_ble_eq_true rfl) dX10_sum_127 ⟨Nat.zero_le _, Nat.zero_le _⟩ (fun E324 H325 k326 W324 I324 G324 p324 => ?_)
                        obtain ⟨p324_0, p324_1⟩ := p324
                        have S324 : Now D TB cy (va_A (va_pl L E) sz) s L τ E324 H325 k326 := ⟨W324, I324⟩
                        have F324 : Fr L τ (inW [(11, 0), (75, 0), (77, 0), (78, 0), (79, 0)]) E E324 := F310.trans (G324.mono (inW_mono (by decide)))
                        have po_127 : (fi E324 a0 22).toInt = (((skI (tx E qx a0 21) (fi E a0 21).toInt.toNat (dgI (tx E qx a0 21) (fi E a0 21).toInt.toNat (skI (tx E qx a0 21) (fi E a0 21).toInt.toNat (fi E_8 a0 22).toInt.toNat))) : Nat) : Int) := by have q := p324_0; rw [tq_127a, fe_127a, show (fi E310 a0 22).toInt.toNat = (dgI (tx E qx a0 21) (fi E a0 21).toInt.toNat (skI (tx E qx a0 21) (fi E a0 21).toInt.toNat (fi E_8 a0 22).toInt.toNat)) from by omega] at q; exact q
                        have kp_127 := fi_rng (k := 22) S324.2 ha0 ta0 rfl rfl
                        refine lv_aload_n hx hb dX10_sum_130 rfl (lv_at hl315 4 rfl) ?_
                        have fe_131a : fi E324 a0 21 = fi E a0 21 := (((p324_1 21 (by decide)).trans ((p310_2 21 (by decide)).trans (p168_1 21 (by decide)))).trans (z16 21 (by decide)))
                        have tq_131a : tx E324 qx a0 21 = (tx E qx a0 21) := tx_same (F324 qx hqx (by rw [tqx]; rfl)) fe_131a
                        have po_131a : (fi E324 a0 22).toInt = (((skI (tx E qx a0 21) (fi E a0 21).toInt.toNat (dgI (tx E qx a0 21) (fi E a0 21).toInt.toNat (skI (tx E qx a0 21) (fi E a0 21).toInt.toNat (fi E_8 a0 22).toInt.toNat))) : Nat) : Int) := po_127
                        refine tc_vi Z.1 Z.2.2.2.1 Z.2.2.2.2.1 Z.2.2.2.2.2 S324.1 S324.2 ha0 ta0 rfl rfl (k_X10_look_vr l D cy S324.2 ha0 ta0 hqx tqx) (cwV 0 hts gX10_sum_X10_look rfl rfl rfl (by decide +kernel) ⟨Nat.le_of_ble_eq_true rfl, Nat.le_of_ble_eq_true rfl⟩) rfl hl315.1 rfl (Nat.le_of_ble_eq_true rfl) dX10_sum_131 ⟨Nat.zero_le _, Nat.zero_le _⟩ (fun v331 E328 H329 k330 W328 I328 G328 p328 => ?_)
                        obtain ⟨q328, p328_0, p328_1, p328_2, p328_3⟩ := p328
                        have q328 := q328.symm
                        subst q328
                        have S328 : Now D TB cy (va_A (va_pl L E) sz) s L τ E324 H329 k330 := ⟨W328, I328⟩
                        have pk_131 : v331.toInt = pkI (tx E qx a0 21) (fi E a0 21).toInt.toNat (skI (tx E qx a0 21) (fi E a0 21).toInt.toNat (dgI (tx E qx a0 21) (fi E a0 21).toInt.toNat (skI (tx E qx a0 21) (fi E a0 21).toInt.toNat (fi E_8 a0 22).toInt.toNat))) := by have q := p328_1; rw [tq_131a, fe_131a, show (fi E324 a0 22).toInt.toNat = (skI (tx E qx a0 21) (fi E a0 21).toInt.toNat (dgI (tx E qx a0 21) (fi E a0 21).toInt.toNat (skI (tx E qx a0 21) (fi E a0 21).toInt.toNat (fi E_8 a0 22).toInt.toNat))) from by omega] at q; exact q
                        obtain ⟨v332, ev332, tv332⟩ : ∃ v : Int32, (Int8.ofInt (42)).toInt32 = v ∧ v.toInt = 42 := ⟨_, rfl, by decide +kernel⟩
                        refine lv_bipush hx hb dX10_sum_134 ev332 ?_
                        refine lv_icmp_ne (tgt := 170) hx hb dX10_sum_136 (by decide) (fun c333 => ?_) (fun c333 => ?_)
                        · skip
                          have tc333 := nu_ne c333
                          refine lv_aload_n hx hb dX10_sum_170 rfl (lv_at hl315 4 rfl) ?_
                          refine tc_vi Z.1 Z.2.2.2.1 Z.2.2.2.2.1 Z.2.2.2.2.2 S328.1 S328.2 ha0 ta0 rfl rfl (k_X10_bad l D cy S328.2 ha0 ta0) (cwV 0 hts gX10_sum_X10_bad rfl rfl rfl (by decide +kernel) ⟨Nat.le_of_ble_eq_true rfl, Nat.le_of_ble_eq_true rfl⟩) rfl hl315.1 rfl (Nat.le_of_ble_eq_true rfl) dX10_sum_171 ⟨Nat.zero_le _, Nat.zero_le _⟩ (fun v337 E334 H335 k336 W334 I334 G334 p334 => ?_)
                          obtain ⟨q334, p334_0, p334_1, p334_2⟩ := p334
                          have q334 := q334.symm
                          subst q334
                          have S334 : Now D TB cy (va_A (va_pl L E) sz) s L τ E324 H335 k336 := ⟨W334, I334⟩
                          try rw [((p324_1 5 (by decide)).trans rfl)] at p334_0
                          refine lv_if_eq (tgt := 178) hx hb dX10_sum_174 (by decide) (fun c338 => ?_) (fun c338 => ?_)
                          · skip
                            have tc338 := nu_eq c338
                            have uc338 : (0 : Int32).toInt = 0 := rfl
                            have pe_178 : (partI (tx E qx a0 21) (fi E a0 21).toInt.toNat x3_8.toInt.toNat (skI (tx E qx a0 21) (fi E a0 21).toInt.toNat (fi E_8 a0 22).toInt.toNat)) = (0, -1, (skI (tx E qx a0 21) (fi E a0 21).toInt.toNat (dgI (tx E qx a0 21) (fi E a0 21).toInt.toNat (skI (tx E qx a0 21) (fi E a0 21).toInt.toNat (fi E_8 a0 22).toInt.toNat)))) := by rw [part_num (by unfold isDg; have q := pk_31; have w := pk_40; omega) (by omega) (by omega), times_no (by rw [← pk_131]; omega)]
                            have r0_178 : (partI (tx E qx a0 21) (fi E a0 21).toInt.toNat x3_8.toInt.toNat (skI (tx E qx a0 21) (fi E a0 21).toInt.toNat (fi E_8 a0 22).toInt.toNat)).1 = 0 := by rw [pe_178]
                            have r2_178 : (partI (tx E qx a0 21) (fi E a0 21).toInt.toNat x3_8.toInt.toNat (skI (tx E qx a0 21) (fi E a0 21).toInt.toNat (fi E_8 a0 22).toInt.toNat)).2.2 = (skI (tx E qx a0 21) (fi E a0 21).toInt.toNat (dgI (tx E qx a0 21) (fi E a0 21).toInt.toNat (skI (tx E qx a0 21) (fi E a0 21).toInt.toNat (fi E_8 a0 22).toInt.toNat))) := by rw [pe_178]
                            have k8_178 : x3_8.toInt ≤ 7 := by have q8 : ¬ 8 ≤ x3_8.toInt.toNat := fun z => part8 (B := (tx E qx a0 21)) (n := (fi E a0 21).toInt.toNat) (s := (skI (tx E qx a0 21) (fi E a0 21).toInt.toNat (fi E_8 a0 22).toInt.toNat)) z r0_178; omega
                            have f0_178 : (fi E324 a0 5).toInt = 0 := by rw [(p324_1 5 (by decide))]; omega
                            exact J178 v313 v306 E324 H335 k336 l314 S334 F324 (by have := fb_rng v313; omega) (by have := fb_rng v313; omega) (by have := fb_rng v313; omega) (by have := fb_rng v313; omega) (by have := fb_rng v313; omega) (by have := fb_rng v313; omega) (by have := fb_rng v313; omega) (by have := fb_rng v313; omega) (by have := fb_rng v313; omega) (by have := fb_rng v313; omega) (((z11.cell (G168 ql hql (by rw [tql]; rfl))).cell (G310 ql hql (by rw [tql]; rfl))).cell (G324 ql hql (by rw [tql]; rfl))) (((G324 qm hqm (by rw [tqm]; rfl)).trans ((G310 qm hqm (by rw [tqm]; rfl)).trans (G168 qm hqm (by rw [tqm]; rfl)))).trans z12) (fun j hj => ((ai_fr G324 hqd (by rw [tqd]; rfl)).trans ((ai_fr G310 hqd (by rw [tqd]; rfl)).trans ((ai_fr G168 hqd (by rw [tqd]; rfl)).trans (z13 j hj))))) (z14.keep ((((Grow.refl (s := a1.toInt.toNat)).cell (G168 ql hql (by rw [tql]; rfl))).cell (G310 ql hql (by rw [tql]; rfl))).cell (G324 ql hql (by rw [tql]; rfl))) ((G324 qd hqd (by rw [tqd]; rfl)).trans ((G310 qd hqd (by rw [tqd]; rfl)).trans (G168 qd hqd (by rw [tqd]; rfl))))) (fun h => by omega) ⟨f0_178, r0_178, (by rw [r2_178]; exact po_127), k8_178, a8s, by omega⟩ (fun k hk => ((p324_1 k (fw_sub (by decide) hk)).trans ((p310_2 k (fw_sub (by decide) hk)).trans ((p168_1 k (fw_sub (by decide) hk)).trans (z16 k hk))))) (by rw [((p324_1 5 (by decide)).trans rfl)]; have := fb_rng v313; omega) (by rw [((p324_1 21 (by decide)).trans ((p310_2 21 (by decide)).trans ((p168_1 21 (by decide)).trans rfl)))]; have := fb_rng v313; omega) (by have := fb_rng v313; omega) (lv_sub hl315 [4, 5, 6, 7, 8, 0, 1] rfl)
                          · skip
                            have tc338 := nu_ne c338
                            have uc338 : (0 : Int32).toInt = 0 := rfl
                            rw [← hQ]
                            exact en_v Z S334 F324 ⟨(((z11.cell (G168 ql hql (by rw [tql]; rfl))).cell (G310 ql hql (by rw [tql]; rfl))).cell (G324 ql hql (by rw [tql]; rfl))), (fun j _ => congrFun (ai_cell (((G324 qm hqm (by rw [tqm]; rfl)).trans ((G310 qm hqm (by rw [tqm]; rfl)).trans (G168 qm hqm (by rw [tqm]; rfl)))).trans z12)) j), (fun j hj => ((ai_fr G324 hqd (by rw [tqd]; rfl)).trans ((ai_fr G310 hqd (by rw [tqd]; rfl)).trans ((ai_fr G168 hqd (by rw [tqd]; rfl)).trans (z13 j hj))))), (fun h => absurd h (by omega)), (by rcases dg_95 with q | q; rw [← a8s, sum_bad (by rw [part_big (by unfold isDg; have q := pk_31; have w := pk_40; omega) (by omega)]; exact ne_b (by decide)), part_big (by unfold isDg; have q := pk_31; have w := pk_40; omega) (by omega)]; exact Did.bad (by decide) (by omega) (by omega); omega), (fun k hk => ((p324_1 k (fw_sub (by decide) hk)).trans ((p310_2 k (fw_sub (by decide) hk)).trans ((p168_1 k (fw_sub (by decide) hk)).trans (z16 k hk)))))⟩ dX10_sum_177
                        · skip
                          have tc333 := nu_eq c333
                          have st_139 : pkI (tx E qx a0 21) (fi E a0 21).toInt.toNat (skI (tx E qx a0 21) (fi E a0 21).toInt.toNat (dgI (tx E qx a0 21) (fi E a0 21).toInt.toNat (skI (tx E qx a0 21) (fi E a0 21).toInt.toNat (fi E_8 a0 22).toInt.toNat))) = 42 := by rw [← pk_131]; omega
                          refine lv_aload_n hx hb dX10_sum_139 rfl (lv_at hl315 4 rfl) ?_
                          refine lv_dup hx hb dX10_sum_140 rfl ?_
                          refine tr_geti Z.1 Z.2.2.2.1 S328.1 S328.2 ha0 ta0 rfl rfl (fun _ h => List.mem_cons_of_mem _ (List.mem_append_right _ h)) 22 (by decide) rfl (hts _ (List.mem_of_getElem? (i := 1) rfl)) dX10_sum_141 (fun v339 ev339 lv339 uv339 => ?_)
                          have wv339 : v339 = (fi E324 a0 22) := ev339.symm.trans rfl
                          have xv339 : v339.toInt = (fi E324 a0 22).toInt := by rw [wv339]
                          obtain ⟨v340, ev340, tv340⟩ : ∃ v : Int32, Int32.ofInt (1) = v ∧ v.toInt = 1 := ⟨_, rfl, by decide +kernel⟩
                          refine lv_iconst hx hb dX10_sum_144 ev340 ?_
                          refine lv_iadd hx hb dX10_sum_145 ?_
                          refine lv_topi (fun v341 ev341 => ?_)
                          have tv341 := nu_add ev341 (by omega) (by omega)
                          refine tr_puti Z.1 Z.2.2.2.1 S328.1 S328.2 ha0 ta0 rfl rfl (fun _ h => List.mem_cons_of_mem _ (List.mem_append_right _ h)) tyX10_ok nmX10 22 (by decide) rfl rfl rfl (hts _ (List.mem_of_getElem? (i := 1) rfl)) dX10_sum_146 (by omega) (by omega) (fun E342 H343 k344 W342 I342 P342 => ?_)
                          have S342 : Now D TB cy (va_A (va_pl L E) sz) s L τ E342 H343 k344 := ⟨W342, I342⟩
                          have F342 : Fr L τ (inW [(11, 0), (75, 0), (77, 0), (78, 0), (79, 0)]) E E342 := Fr.put F324 P342 ta0 rfl
                          have po_146 : (fi E342 a0 22).toInt = ((((skI (tx E qx a0 21) (fi E a0 21).toInt.toNat (dgI (tx E qx a0 21) (fi E a0 21).toInt.toNat (skI (tx E qx a0 21) (fi E a0 21).toInt.toNat (fi E_8 a0 22).toInt.toNat))) + 1) : Nat) : Int) := by have q : (fi E324 a0 22).toInt = (((skI (tx E qx a0 21) (fi E a0 21).toInt.toNat (dgI (tx E qx a0 21) (fi E a0 21).toInt.toNat (skI (tx E qx a0 21) (fi E a0 21).toInt.toNat (fi E_8 a0 22).toInt.toNat))) : Nat) : Int) := po_127; rw [(fi_at P342)]; omega
                          refine lv_aload_n hx hb dX10_sum_149 rfl (lv_at hl315 4 rfl) ?_
                          have fe_150a : fi E342 a0 21 = fi E a0 21 := (((fi_put (k := 21) P342 (Or.inr (by decide))).trans ((p324_1 21 (by decide)).trans ((p310_2 21 (by decide)).trans (p168_1 21 (by decide))))).trans (z16 21 (by decide)))
                          have tq_150a : tx E342 qx a0 21 = (tx E qx a0 21) := tx_same (F342 qx hqx (by rw [tqx]; rfl)) fe_150a
                          have po_150a : (fi E342 a0 22).toInt = ((((skI (tx E qx a0 21) (fi E a0 21).toInt.toNat (dgI (tx E qx a0 21) (fi E a0 21).toInt.toNat (skI (tx E qx a0 21) (fi E a0 21).toInt.toNat (fi E_8 a0 22).toInt.toNat))) + 1) : Nat) : Int) := po_146
                          refine tc_vv Z.1 Z.2.2.2.1 Z.2.2.2.2.1 Z.2.2.2.2.2 S342.1 S342.2 ha0 ta0 rfl rfl (k_X10_blanks_vr l D cy S342.2 ha0 ta0 hqx tqx) (cwV 0 hts gX10_sum_X10_blanks rfl rfl rfl (by decide +kernel) ⟨Nat.le_of_ble_eq_true rfl, Nat.le_of_ble_eq_true rfl⟩) rfl hl315.1 rfl (Nat.le_of_ble_eq_true rfl) dX10_sum_150 ⟨Nat.zero_le _, Nat.zero_le _⟩ (fun E345 H346 k347 W345 I345 G345 p345 => ?_)
                          obtain ⟨p345_0, p345_1⟩ := p345
                          have S345 : Now D TB cy (va_A (va_pl L E) sz) s L τ E345 H346 k347 := ⟨W345, I345⟩
                          have F345 : Fr L τ (inW [(11, 0), (75, 0), (77, 0), (78, 0), (79, 0)]) E E345 := F342.trans (G345.mono (inW_mono (by decide)))
                          have po_150 : (fi E345 a0 22).toInt = (((skI (tx E qx a0 21) (fi E a0 21).toInt.toNat ((skI (tx E qx a0 21) (fi E a0 21).toInt.toNat (dgI (tx E qx a0 21) (fi E a0 21).toInt.toNat (skI (tx E qx a0 21) (fi E a0 21).toInt.toNat (fi E_8 a0 22).toInt.toNat))) + 1)) : Nat) : Int) := by have q := p345_0; rw [tq_150a, fe_150a, show (fi E342 a0 22).toInt.toNat = ((skI (tx E qx a0 21) (fi E a0 21).toInt.toNat (dgI (tx E qx a0 21) (fi E a0 21).toInt.toNat (skI (tx E qx a0 21) (fi E a0 21).toInt.toNat (fi E_8 a0 22).toInt.toNat))) + 1) from by omega] at q; exact q
                          have kp_150 := fi_rng (k := 22) S345.2 ha0 ta0 rfl rfl
                          refine lv_aload_n hx hb dX10_sum_153 rfl (lv_at hl315 4 rfl) ?_
                          refine lv_iload_n hx hb dX10_sum_154 rfl (lv_at hl315 5 rfl) ?_
                          have fe_155a : fi E345 a0 21 = fi E a0 21 := (((p345_1 21 (by decide)).trans ((fi_put (k := 21) P342 (Or.inr (by decide))).trans ((p324_1 21 (by decide)).trans ((p310_2 21 (by decide)).trans (p168_1 21 (by decide)))))).trans (z16 21 (by decide)))
                          have tq_155a : tx E345 qx a0 21 = (tx E qx a0 21) := tx_same (F345 qx hqx (by rw [tqx]; rfl)) fe_155a
                          have po_155a : (fi E345 a0 22).toInt = (((skI (tx E qx a0 21) (fi E a0 21).toInt.toNat ((skI (tx E qx a0 21) (fi E a0 21).toInt.toNat (dgI (tx E qx a0 21) (fi E a0 21).toInt.toNat (skI (tx E qx a0 21) (fi E a0 21).toInt.toNat (fi E_8 a0 22).toInt.toNat))) + 1)) : Nat) : Int) := po_150
                          have f0_155 : (fi E345 a0 5).toInt = 0 := by rw [((p345_1 5 (by decide)).trans ((fi_put (k := 5) P342 (Or.inr (by decide))).trans (p324_1 5 (by decide))))]; omega
                          refine tc_vi Z.1 Z.2.2.2.1 Z.2.2.2.2.1 Z.2.2.2.2.2 S345.1 S345.2 ha0 ta0 rfl rfl (k_X10_name_vr l D cy S345.2 ha0 ta0 a1 (by omega) (by omega) hql tql hqx tqx f0_155) (cwV 1 hts gX10_sum_X10_name rfl rfl rfl (by decide +kernel) ⟨Nat.le_of_ble_eq_true rfl, Nat.le_of_ble_eq_true rfl⟩) rfl hl315.1 rfl (Nat.le_of_ble_eq_true rfl) dX10_sum_155 ⟨Nat.zero_le _, Nat.zero_le _⟩ (fun v352 E349 H350 k351 W349 I349 G349 p349 => ?_)
                          obtain ⟨p349_0, p349_1, p349_2, p349_3, p349_4, p349_5⟩ := p349
                          have S349 : Now D TB cy (va_A (va_pl L E) sz) s L τ E349 H350 k351 := ⟨W349, I349⟩
                          have F349 : Fr L τ (inW [(11, 0), (75, 0), (77, 0), (78, 0), (79, 0)]) E E349 := F345.trans (G349.mono (inW_mono (by decide)))
                          have nr_155 : (nmV (wdI (tx E qx a0 21) (fi E a0 21).toInt.toNat (skI (tx E qx a0 21) (fi E a0 21).toInt.toNat ((skI (tx E qx a0 21) (fi E a0 21).toInt.toNat (dgI (tx E qx a0 21) (fi E a0 21).toInt.toNat (skI (tx E qx a0 21) (fi E a0 21).toInt.toNat (fi E_8 a0 22).toInt.toNat))) + 1))) = -1 ∧ (fi E349 a0 5).toInt = 1 ∧ (fi E349 a0 6).toInt = (((skI (tx E qx a0 21) (fi E a0 21).toInt.toNat ((skI (tx E qx a0 21) (fi E a0 21).toInt.toNat (dgI (tx E qx a0 21) (fi E a0 21).toInt.toNat (skI (tx E qx a0 21) (fi E a0 21).toInt.toNat (fi E_8 a0 22).toInt.toNat))) + 1)) : Nat) : Int)) ∨ (nmV (wdI (tx E qx a0 21) (fi E a0 21).toInt.toNat (skI (tx E qx a0 21) (fi E a0 21).toInt.toNat ((skI (tx E qx a0 21) (fi E a0 21).toInt.toNat (dgI (tx E qx a0 21) (fi E a0 21).toInt.toNat (skI (tx E qx a0 21) (fi E a0 21).toInt.toNat (fi E_8 a0 22).toInt.toNat))) + 1))) ≠ -1 ∧ (fi E349 a0 5).toInt = 0 ∧ (fi E349 a0 22).toInt = ((nameE (tx E qx a0 21) (fi E a0 21).toInt.toNat (skI (tx E qx a0 21) (fi E a0 21).toInt.toNat ((skI (tx E qx a0 21) (fi E a0 21).toInt.toNat (dgI (tx E qx a0 21) (fi E a0 21).toInt.toNat (skI (tx E qx a0 21) (fi E a0 21).toInt.toNat (fi E_8 a0 22).toInt.toNat))) + 1)) : Nat) : Int)) := by have q := p349_2; rw [tq_155a, fe_155a, show (fi E345 a0 22).toInt.toNat = (skI (tx E qx a0 21) (fi E a0 21).toInt.toNat ((skI (tx E qx a0 21) (fi E a0 21).toInt.toNat (dgI (tx E qx a0 21) (fi E a0 21).toInt.toNat (skI (tx E qx a0 21) (fi E a0 21).toInt.toNat (fi E_8 a0 22).toInt.toNat))) + 1)) from by omega] at q; omega
                          have kp_155f := fi_rng (k := 5) S349.2 ha0 ta0 rfl rfl
                          have kp_155p := fi_rng (k := 22) S349.2 ha0 ta0 rfl rfl
                          refine lv_istore (lv' := [(9, .int v352), (8, .int v313), (7, .int v299), (6, .int v172), (0, .ref a0), (1, .int a1), (2, .int a2), (3, .int x3_8), (4, .int x4_8), (5, .int x5_8)]) hx hb dX10_sum_158 hl315 (by decide) rfl (fun l353 hl354 => ?_)
                          refine lv_goto (tgt := 170) hx hb dX10_sum_160 (by decide) ?_
                          refine lv_aload_n hx hb dX10_sum_170 rfl (lv_at hl354 4 rfl) ?_
                          refine tc_vi Z.1 Z.2.2.2.1 Z.2.2.2.2.1 Z.2.2.2.2.2 S349.1 S349.2 ha0 ta0 rfl rfl (k_X10_bad l D cy S349.2 ha0 ta0) (cwV 0 hts gX10_sum_X10_bad rfl rfl rfl (by decide +kernel) ⟨Nat.le_of_ble_eq_true rfl, Nat.le_of_ble_eq_true rfl⟩) rfl hl354.1 rfl (Nat.le_of_ble_eq_true rfl) dX10_sum_171 ⟨Nat.zero_le _, Nat.zero_le _⟩ (fun v358 E355 H356 k357 W355 I355 G355 p355 => ?_)
                          obtain ⟨q355, p355_0, p355_1, p355_2⟩ := p355
                          have q355 := q355.symm
                          subst q355
                          have S355 : Now D TB cy (va_A (va_pl L E) sz) s L τ E349 H356 k357 := ⟨W355, I355⟩
                          refine lv_if_eq (tgt := 178) hx hb dX10_sum_174 (by decide) (fun c359 => ?_) (fun c359 => ?_)
                          · skip
                            have tc359 := nu_eq c359
                            have uc359 : (0 : Int32).toInt = 0 := rfl
                            have no_155 : nmV (wdI (tx E qx a0 21) (fi E a0 21).toInt.toNat (skI (tx E qx a0 21) (fi E a0 21).toInt.toNat ((skI (tx E qx a0 21) (fi E a0 21).toInt.toNat (dgI (tx E qx a0 21) (fi E a0 21).toInt.toNat (skI (tx E qx a0 21) (fi E a0 21).toInt.toNat (fi E_8 a0 22).toInt.toNat))) + 1))) ≠ -1 ∧ (fi E349 a0 22).toInt = ((nameE (tx E qx a0 21) (fi E a0 21).toInt.toNat (skI (tx E qx a0 21) (fi E a0 21).toInt.toNat ((skI (tx E qx a0 21) (fi E a0 21).toInt.toNat (dgI (tx E qx a0 21) (fi E a0 21).toInt.toNat (skI (tx E qx a0 21) (fi E a0 21).toInt.toNat (fi E_8 a0 22).toInt.toNat))) + 1)) : Nat) : Int) := by rcases nr_155 with q | q; omega; exact ⟨q.1, q.2.2⟩
                            have pe_178 : (partI (tx E qx a0 21) (fi E a0 21).toInt.toNat x3_8.toInt.toNat (skI (tx E qx a0 21) (fi E a0 21).toInt.toNat (fi E_8 a0 22).toInt.toNat)) = (0, -1, (nameE (tx E qx a0 21) (fi E a0 21).toInt.toNat (skI (tx E qx a0 21) (fi E a0 21).toInt.toNat ((skI (tx E qx a0 21) (fi E a0 21).toInt.toNat (dgI (tx E qx a0 21) (fi E a0 21).toInt.toNat (skI (tx E qx a0 21) (fi E a0 21).toInt.toNat (fi E_8 a0 22).toInt.toNat))) + 1)))) := by rw [part_num (by unfold isDg; have q := pk_31; have w := pk_40; omega) (by omega) (by omega), times_ok st_139 no_155.1]
                            have r0_178 : (partI (tx E qx a0 21) (fi E a0 21).toInt.toNat x3_8.toInt.toNat (skI (tx E qx a0 21) (fi E a0 21).toInt.toNat (fi E_8 a0 22).toInt.toNat)).1 = 0 := by rw [pe_178]
                            have r2_178 : (partI (tx E qx a0 21) (fi E a0 21).toInt.toNat x3_8.toInt.toNat (skI (tx E qx a0 21) (fi E a0 21).toInt.toNat (fi E_8 a0 22).toInt.toNat)).2.2 = (nameE (tx E qx a0 21) (fi E a0 21).toInt.toNat (skI (tx E qx a0 21) (fi E a0 21).toInt.toNat ((skI (tx E qx a0 21) (fi E a0 21).toInt.toNat (dgI (tx E qx a0 21) (fi E a0 21).toInt.toNat (skI (tx E qx a0 21) (fi E a0 21).toInt.toNat (fi E_8 a0 22).toInt.toNat))) + 1))) := by rw [pe_178]
                            have k8_178 : x3_8.toInt ≤ 7 := by have q8 : ¬ 8 ≤ x3_8.toInt.toNat := fun z => part8 (B := (tx E qx a0 21)) (n := (fi E a0 21).toInt.toNat) (s := (skI (tx E qx a0 21) (fi E a0 21).toInt.toNat (fi E_8 a0 22).toInt.toNat)) z r0_178; omega
                            have f0_178 : (fi E349 a0 5).toInt = 0 := by omega
                            exact J178 v313 v352 E349 H356 k357 l353 S355 F349 (by have := fb_rng v313; omega) (by have := fb_rng v313; omega) (by have := fb_rng v313; omega) (by have := fb_rng v313; omega) (by have := fb_rng v313; omega) (by have := fb_rng v313; omega) (by have := fb_rng v313; omega) (by have := fb_rng v313; omega) (by have := fb_rng v313; omega) (by have := fb_rng v313; omega) ((((((z11.cell (G168 ql hql (by rw [tql]; rfl))).cell (G310 ql hql (by rw [tql]; rfl))).cell (G324 ql hql (by rw [tql]; rfl))).cell (P342.1 ql (ne_ro tql ta0 (by decide)))).cell (G345 ql hql (by rw [tql]; rfl))).trans p349_0) (((G349 qm hqm (by rw [tqm]; rfl)).trans ((G345 qm hqm (by rw [tqm]; rfl)).trans ((P342.1 qm (ne_ro tqm ta0 (by decide))).trans ((G324 qm hqm (by rw [tqm]; rfl)).trans ((G310 qm hqm (by rw [tqm]; rfl)).trans (G168 qm hqm (by rw [tqm]; rfl))))))).trans z12) (fun j hj => ((ai_fr G349 hqd (by rw [tqd]; rfl)).trans ((ai_fr G345 hqd (by rw [tqd]; rfl)).trans ((ai_put P342 (ne_ro tqd ta0 (by decide))).trans ((ai_fr G324 hqd (by rw [tqd]; rfl)).trans ((ai_fr G310 hqd (by rw [tqd]; rfl)).trans ((ai_fr G168 hqd (by rw [tqd]; rfl)).trans (z13 j hj)))))))) (z14.keep (((((((Grow.refl (s := a1.toInt.toNat)).cell (G168 ql hql (by rw [tql]; rfl))).cell (G310 ql hql (by rw [tql]; rfl))).cell (G324 ql hql (by rw [tql]; rfl))).cell (P342.1 ql (ne_ro tql ta0 (by decide)))).cell (G345 ql hql (by rw [tql]; rfl))).trans p349_0) ((G349 qd hqd (by rw [tqd]; rfl)).trans ((G345 qd hqd (by rw [tqd]; rfl)).trans ((P342.1 qd (ne_ro tqd ta0 (by decide))).trans ((G324 qd hqd (by rw [tqd]; rfl)).trans ((G310 qd hqd (by rw [tqd]; rfl)).trans (G168 qd hqd (by rw [tqd]; rfl)))))))) p349_1 ⟨f0_178, r0_178, (by rw [r2_178]; exact no_155.2), k8_178, a8s, by omega⟩ (fun k hk => ((p349_5 k (fw_sub (by decide) hk)).trans ((p345_1 k (fw_sub (by decide) hk)).trans ((fi_put P342 (Or.inr (fw_ne (by decide) hk))).trans ((p324_1 k (fw_sub (by decide) hk)).trans ((p310_2 k (fw_sub (by decide) hk)).trans ((p168_1 k (fw_sub (by decide) hk)).trans (z16 k hk)))))))) (by have := fb_rng v313; omega) (by rw [((p349_5 21 (by decide)).trans ((p345_1 21 (by decide)).trans ((fi_put (k := 21) P342 (Or.inr (by decide))).trans ((p324_1 21 (by decide)).trans ((p310_2 21 (by decide)).trans ((p168_1 21 (by decide)).trans rfl))))))]; have := fb_rng v313; omega) (by have := fb_rng v313; omega) (lv_sub hl354 [4, 5, 6, 7, 8, 1, 0] rfl)
                          · skip
                            have tc359 := nu_ne c359
                            have uc359 : (0 : Int32).toInt = 0 := rfl
                            rw [← hQ]
                            exact en_v Z S355 F349 ⟨((((((z11.cell (G168 ql hql (by rw [tql]; rfl))).cell (G310 ql hql (by rw [tql]; rfl))).cell (G324 ql hql (by rw [tql]; rfl))).cell (P342.1 ql (ne_ro tql ta0 (by decide)))).cell (G345 ql hql (by rw [tql]; rfl))).trans p349_0), (fun j _ => congrFun (ai_cell (((G349 qm hqm (by rw [tqm]; rfl)).trans ((G345 qm hqm (by rw [tqm]; rfl)).trans ((P342.1 qm (ne_ro tqm ta0 (by decide))).trans ((G324 qm hqm (by rw [tqm]; rfl)).trans ((G310 qm hqm (by rw [tqm]; rfl)).trans (G168 qm hqm (by rw [tqm]; rfl))))))).trans z12)) j), (fun j hj => ((ai_fr G349 hqd (by rw [tqd]; rfl)).trans ((ai_fr G345 hqd (by rw [tqd]; rfl)).trans ((ai_put P342 (ne_ro tqd ta0 (by decide))).trans ((ai_fr G324 hqd (by rw [tqd]; rfl)).trans ((ai_fr G310 hqd (by rw [tqd]; rfl)).trans ((ai_fr G168 hqd (by rw [tqd]; rfl)).trans (z13 j hj)))))))), (fun h => absurd h (by omega)), (by rcases nr_155 with q | q; rw [← a8s, sum_bad (by rw [part_num (by unfold isDg; have q := pk_31; have w := pk_40; omega) (by omega) (by omega), times_bad st_139 q.1]; exact ne_b (by decide)), part_num (by unfold isDg; have q := pk_31; have w := pk_40; omega) (by omega) (by omega), times_bad st_139 q.1]; exact Did.bad (by decide) (by omega) (by omega); omega), (fun k hk => ((p349_5 k (fw_sub (by decide) hk)).trans ((p345_1 k (fw_sub (by decide) hk)).trans ((fi_put P342 (Or.inr (fw_ne (by decide) hk))).trans ((p324_1 k (fw_sub (by decide) hk)).trans ((p310_2 k (fw_sub (by decide) hk)).trans ((p168_1 k (fw_sub (by decide) hk)).trans (z16 k hk))))))))⟩ dX10_sum_177
                    · skip
                      have tc322 := nu_ne c322
                      have uc322 : (0 : Int32).toInt = 0 := rfl
                      rw [← hQ]
                      exact en_v Z S318 F310 ⟨((z11.cell (G168 ql hql (by rw [tql]; rfl))).cell (G310 ql hql (by rw [tql]; rfl))), (fun j _ => congrFun (ai_cell (((G310 qm hqm (by rw [tqm]; rfl)).trans (G168 qm hqm (by rw [tqm]; rfl))).trans z12)) j), (fun j hj => ((ai_fr G310 hqd (by rw [tqd]; rfl)).trans ((ai_fr G168 hqd (by rw [tqd]; rfl)).trans (z13 j hj)))), (fun h => absurd h (by omega)), (by rcases dg_95 with q | q; rw [← a8s, sum_bad (by rw [part_big (by unfold isDg; have q := pk_31; have w := pk_40; omega) (by omega)]; exact ne_b (by decide)), part_big (by unfold isDg; have q := pk_31; have w := pk_40; omega) (by omega)]; exact Did.bad (by decide) (by omega) (by omega); omega), (fun k hk => ((p310_2 k (fw_sub (by decide) hk)).trans ((p168_1 k (fw_sub (by decide) hk)).trans (z16 k hk))))⟩ dX10_sum_120
                  · skip
                    have tc317 := nu_eq c317
                    refine lv_aload_n hx hb dX10_sum_106 rfl (lv_at hl315 4 rfl) ?_
                    obtain ⟨v360, ev360, tv360⟩ : ∃ v : Int32, Int32.ofInt (3) = v ∧ v.toInt = 3 := ⟨_, rfl, by decide +kernel⟩
                    refine lv_iconst hx hb dX10_sum_107 ev360 ?_
                    refine lv_iload hx hb dX10_sum_108 (lv_at hl315 3 rfl) ?_
                    have k110 : 8 ≤ x3_8.toInt.toNat := by omega
                    refine tc_vv Z.1 Z.2.2.2.1 Z.2.2.2.2.1 Z.2.2.2.2.2 S310.1 S310.2 ha0 ta0 rfl rfl (k_X10_wrong_vr l D cy S310.2 ha0 ta0 v360 (by omega) (by omega) v172) (cwV 2 hts gX10_sum_X10_wrong rfl rfl rfl (by decide +kernel) ⟨Nat.le_of_ble_eq_true rfl, Nat.le_of_ble_eq_true rfl⟩) rfl hl315.1 rfl (Nat.le_of_ble_eq_true rfl) dX10_sum_110 ⟨Nat.zero_le _, Nat.zero_le _⟩ (fun E361 H362 k363 W361 I361 G361 p361 => ?_)
                    obtain ⟨p361_0, p361_1⟩ := p361
                    have S361 : Now D TB cy (va_A (va_pl L E) sz) s L τ E361 H362 k363 := ⟨W361, I361⟩
                    have F361 : Fr L τ (inW [(11, 0), (75, 0), (77, 0), (78, 0), (79, 0)]) E E361 := F310.trans (G361.mono (inW_mono (by decide)))
                    have w110 : (9999 < dvI (tx E qx a0 21) (fi E a0 21).toInt.toNat (skI (tx E qx a0 21) (fi E a0 21).toInt.toNat (fi E_8 a0 22).toInt.toNat) 0 ∧ (fi E361 a0 5).toInt = 2 ∧ (fi E361 a0 6).toInt = (((skI (tx E qx a0 21) (fi E a0 21).toInt.toNat (fi E_8 a0 22).toInt.toNat) : Nat) : Int)) ∨ (dvI (tx E qx a0 21) (fi E a0 21).toInt.toNat (skI (tx E qx a0 21) (fi E a0 21).toInt.toNat (fi E_8 a0 22).toInt.toNat) 0 ≤ 9999 ∧ (fi E361 a0 5).toInt = 3 ∧ (fi E361 a0 6).toInt = (((skI (tx E qx a0 21) (fi E a0 21).toInt.toNat (fi E_8 a0 22).toInt.toNat) : Nat) : Int)) := by have q := p361_0; omega
                    have kp_110f := fi_rng (k := 5) S361.2 ha0 ta0 rfl rfl
                    refine lv_aload_n hx hb dX10_sum_113 rfl (lv_at hl315 4 rfl) ?_
                    refine tc_vi Z.1 Z.2.2.2.1 Z.2.2.2.2.1 Z.2.2.2.2.2 S361.1 S361.2 ha0 ta0 rfl rfl (k_X10_bad l D cy S361.2 ha0 ta0) (cwV 0 hts gX10_sum_X10_bad rfl rfl rfl (by decide +kernel) ⟨Nat.le_of_ble_eq_true rfl, Nat.le_of_ble_eq_true rfl⟩) rfl hl315.1 rfl (Nat.le_of_ble_eq_true rfl) dX10_sum_114 ⟨Nat.zero_le _, Nat.zero_le _⟩ (fun v368 E365 H366 k367 W365 I365 G365 p365 => ?_)
                    obtain ⟨q365, p365_0, p365_1, p365_2⟩ := p365
                    have q365 := q365.symm
                    subst q365
                    have S365 : Now D TB cy (va_A (va_pl L E) sz) s L τ E361 H366 k367 := ⟨W365, I365⟩
                    refine lv_if_eq (tgt := 121) hx hb dX10_sum_117 (by decide) (fun c369 => ?_) (fun c369 => ?_)
                    · skip
                      have tc369 := nu_eq c369
                      have uc369 : (0 : Int32).toInt = 0 := rfl
                      omega
                    · skip
                      have tc369 := nu_ne c369
                      have uc369 : (0 : Int32).toInt = 0 := rfl
                      rw [← hQ]
                      exact en_v Z S365 F361 ⟨(((z11.cell (G168 ql hql (by rw [tql]; rfl))).cell (G310 ql hql (by rw [tql]; rfl))).cell (G361 ql hql (by rw [tql]; rfl))), (fun j _ => congrFun (ai_cell (((G361 qm hqm (by rw [tqm]; rfl)).trans ((G310 qm hqm (by rw [tqm]; rfl)).trans (G168 qm hqm (by rw [tqm]; rfl)))).trans z12)) j), (fun j hj => ((ai_fr G361 hqd (by rw [tqd]; rfl)).trans ((ai_fr G310 hqd (by rw [tqd]; rfl)).trans ((ai_fr G168 hqd (by rw [tqd]; rfl)).trans (z13 j hj))))), (fun h => absurd h (by omega)), (by rcases w110 with q | q; rw [← a8s, sum_bad (by rw [part_big (by unfold isDg; have q := pk_31; have w := pk_40; omega) (by omega)]; exact ne_b (by decide)), part_big (by unfold isDg; have q := pk_31; have w := pk_40; omega) (by omega)]; exact Did.bad (by decide) (by omega) (by omega); rw [← a8s, sum_bad (by rw [part_long (by unfold isDg; have q := pk_31; have w := pk_40; omega) (by omega) k110]; exact ne_b (by decide)), part_long (by unfold isDg; have q := pk_31; have w := pk_40; omega) (by omega) k110]; exact Did.bad (by decide) (by omega) (by omega)), (fun k hk => ((p361_1 k (fw_sub (by decide) hk)).trans ((p310_2 k (fw_sub (by decide) hk)).trans ((p168_1 k (fw_sub (by decide) hk)).trans (z16 k hk)))))⟩ dX10_sum_120
              · skip
                have tc302 := nu_eq c302
                have uc302 : (0 : Int32).toInt = 0 := rfl
                omega
  obtain ⟨v370, ev370, tv370⟩ : ∃ v : Int32, Int32.ofInt (0) = v ∧ v.toInt = 0 := ⟨_, rfl, by decide +kernel⟩
  refine lv_iconst hx hb dX10_sum_0 ev370 ?_
  refine lv_istore_n (lv' := [(3, .int v370), (0, .ref a0), (1, .int a1), (2, .int a2)]) hx hb dX10_sum_1 rfl hl (by decide) rfl (fun l371 hl372 => ?_)
  obtain ⟨v373, ev373, tv373⟩ : ∃ v : Int32, Int32.ofInt (1) = v ∧ v.toInt = 1 := ⟨_, rfl, by decide +kernel⟩
  refine lv_iconst hx hb dX10_sum_2 ev373 ?_
  refine lv_istore (lv' := [(4, .int v373), (3, .int v370), (0, .ref a0), (1, .int a1), (2, .int a2)]) hx hb dX10_sum_3 hl372 (by decide) rfl (fun l374 hl375 => ?_)
  obtain ⟨v376, ev376, tv376⟩ : ∃ v : Int32, Int32.ofInt (1) = v ∧ v.toInt = 1 := ⟨_, rfl, by decide +kernel⟩
  refine lv_iconst hx hb dX10_sum_5 ev376 ?_
  refine lv_istore (lv' := [(5, .int v376), (4, .int v373), (3, .int v370), (0, .ref a0), (1, .int a1), (2, .int a2)]) hx hb dX10_sum_6 hl375 (by decide) rfl (fun l377 hl378 => ?_)
  exact J8 _ v370 v373 v376 E s.heap [] l377 S0 F0_ (by omega) (by omega) (by omega) (by omega) (by omega) (by omega) (by omega) (by omega) (by omega) (by omega) (Grow.refl (s := a1.toInt.toNat)) rfl (fun j hj => rfl) (fun i hi _ => absurd hi (by omega)) (Or.inl ⟨by omega, by omega, by rw [show v370.toInt.toNat = 0 from by omega]; rfl⟩) (fun k hk => ((fun k hk => rfl) k hk)) (by omega) (by omega) (by omega) (Nat.lt_succ_self _) (lv_sub hl378 [3, 4, 5, 2, 1, 0] rfl)

