set_option maxRecDepth 20000 in
theorem ggX9_told_X9_within : GoodIn wsX9_told wsX9_within := goodIn_r _ [8] (by decide +kernel) (by decide +kernel)
set_option maxRecDepth 20000 in
theorem gX9_told_X9_within : GoodIn wsX9_told (va_wsS RX9 73 yX9_within wsX9_within) := goodIn_app (goodIn_of _ (by decide +kernel)) ggX9_told_X9_within
theorem dX9_told_0 : decode cX9_told 0 = .ok (.iload_n 1, 1) := by decide +kernel
theorem dX9_told_1 : decode cX9_told 1 = .ok (.iconst 0, 1) := by decide +kernel
theorem dX9_told_2 : decode cX9_told 2 = .ok (.aload_n 0, 1) := by decide +kernel
theorem dX9_told_3 : decode cX9_told 3 = .ok (.getfield 62, 3) := by decide +kernel
theorem dX9_told_6 : decode cX9_told 6 = .ok (.iconst 1, 1) := by decide +kernel
theorem dX9_told_7 : decode cX9_told 7 = .ok (.isub, 1) := by decide +kernel
theorem dX9_told_8 : decode cX9_told 8 = .ok (.invokestatic 73, 3) := by decide +kernel
theorem dX9_told_11 : decode cX9_told 11 = .ok (.ifCond .ne 14, 3) := by decide +kernel
theorem dX9_told_14 : decode cX9_told 14 = .ok (.new 277, 3) := by decide +kernel
theorem dX9_told_17 : decode cX9_told 17 = .ok (.dup, 1) := by decide +kernel
theorem dX9_told_18 : decode cX9_told 18 = .ok (.ldc_w 279, 3) := by decide +kernel
theorem dX9_told_21 : decode cX9_told 21 = .ok (.invokespecial 281, 3) := by decide +kernel
theorem dX9_told_24 : decode cX9_told 24 = .ok (.athrow, 1) := by decide +kernel
theorem dX9_told_25 : decode cX9_told 25 = .ok (.aload_n 0, 1) := by decide +kernel
theorem dX9_told_26 : decode cX9_told 26 = .ok (.getfield 58, 3) := by decide +kernel
theorem dX9_told_29 : decode cX9_told 29 = .ok (.iload_n 1, 1) := by decide +kernel
theorem dX9_told_30 : decode cX9_told 30 = .ok (.iaload, 1) := by decide +kernel
theorem dX9_told_31 : decode cX9_told 31 = .ok (.ireturn, 1) := by decide +kernel
set_option maxHeartbeats 4000000 in
set_option maxRecDepth 100000 in
theorem k_X9_told (l : Launch) (hlt : l.stackTraces = false) (D : va_G) (cy : Nat → ClassId) {tx : String} {sa : Nat} {L : List Nat} {τ : Nat → Ro} {E : Ec} (hI : Inv TB cy L τ E) {a0 : Nat} (ha0 : a0 ∈ L) (ta0 : τ a0 = (0, 0)) (a1 : Int32) (sz : Nat) : vx_Met l yX9_told wsX9_told { frames := 6, cells := 1, slots := 6, locals := 90 } (preT tx sa D cy L E sz [.ref a0, .int a1]) (toQ D cy L τ E sz) (toX D cy L τ E sz) 1 6 (va_A (va_pl L E) sz) := by
  refine vx_ofW (cc := cX9_told) (maxL := 2) (ret := some .int) (by decide) rfl ?_
  intro p e s m args below meth c s₁ B hml hno hv
  obtain ⟨rfl, hsz, ⟨hP, hK, hD0⟩, hN, SZ⟩ := hv
  have hts0 := atoms_spec (ws := wsX9_told) B.pre
  have hown : s.vm.findClass yX9_told.cls = some m.cls := findClass_of_methodNamed B.named
  have hlv := lv_entry [.ref a0, .int a1] (n := 2) (Nat.le_of_ble_eq_true rfl)
  rw [lg_entry_eq]
  generalize (lg_sl [Value.ref a0, Value.int a1] ++ List.replicate (2 - (lg_sl [Value.ref a0, Value.int a1]).length) Slot.unset).toArray = ls at hlv ⊢
  generalize hargs : ([Value.ref a0, Value.int a1] : List Value).toArray = args at *
  have Z : Amb p m meth c cX9_told 2 s args wsX9_told yX9_told.cls (some .int) D cy (va_A (va_pl L E) sz) := ⟨⟨B.exec, B.bytes, hml, hown, hts0⟩, B.returns, B.notSynchronized, hK, hN, fun q h => Or.inr (by omega)⟩
  have S0 : NowG D cy (va_A (va_pl L E) sz) s L τ E s.heap [] := ⟨⟨hP, hD0.self, va_S.rf⟩, hI⟩
  have hl := hlv
  have hx := Z.1.1
  have hb := Z.1.2.1
  have hts := Z.1.2.2.2.2
  have F0_ : Fr L τ (inW []) E E := Fr.refl
  have hl : lv_has ls 2 [(0, .ref a0), (1, .int a1)] := hl
  refine lv_iload_n hx hb dX9_told_0 rfl (lv_at hl 1 rfl) ?_
  obtain ⟨v1, ev1, tv1⟩ : ∃ v : Int32, Int32.ofInt (0) = v ∧ v.toInt = 0 := ⟨_, rfl, by decide +kernel⟩
  refine lv_iconst hx hb dX9_told_1 ev1 ?_
  refine lv_aload_n hx hb dX9_told_2 rfl (lv_at hl 0 rfl) ?_
  refine tr_geti Z.1 Z.2.2.2.1 S0.1 S0.2 ha0 ta0 rfl rfl (fun _ h => List.mem_cons_of_mem _ (List.mem_append_left _ (List.mem_append_right _ h))) 8 (by decide) rfl (hts _ (List.mem_of_getElem? (i := 3) rfl)) dX9_told_3 (fun v2 ev2 lv2 uv2 => ?_)
  obtain ⟨v3, ev3, tv3⟩ : ∃ v : Int32, Int32.ofInt (1) = v ∧ v.toInt = 1 := ⟨_, rfl, by decide +kernel⟩
  refine lv_iconst hx hb dX9_told_6 ev3 ?_
  refine lv_isub hx hb dX9_told_7 ?_
  refine lv_topi (fun v4 ev4 => ?_)
  have tv4 := nu_sub ev4 (by omega) (by omega)
  refine tc_si Z.1 Z.2.2.2.1 Z.2.2.2.2.1 Z.2.2.2.2.2 S0.1 (k_X9_within l D cy S0.2 a1 v1 v4) (va_cwS 3 hts gX9_told_X9_within rfl rfl rfl (by decide +kernel) ⟨Nat.le_of_ble_eq_true rfl, Nat.le_of_ble_eq_true rfl⟩) rfl hl.1 rfl (Nat.le_of_ble_eq_true rfl) dX9_told_8 ⟨Nat.zero_le _, Nat.zero_le _⟩ (fun v8 E5 H6 k7 W5 I5 G5 p5 => ?_)
  obtain ⟨q5, p5_0, p5_1, p5_2⟩ := p5
  have q5 := q5.symm
  subst q5
  have S5 : Now D TB cy (va_A (va_pl L E) sz) s L τ E H6 k7 := ⟨W5, I5⟩
  refine lv_if_ne (tgt := 25) hx hb dX9_told_11 (by decide) (fun c9 => ?_) (fun c9 => ?_)
  · skip
    have tc9 := nu_ne c9
    have uc9 : (0 : Int32).toInt = 0 := rfl
    refine lv_aload_n hx hb dX9_told_25 rfl (lv_at hl 0 rfl) ?_
    refine tr_getr Z.1 Z.2.2.2.1 S5.1 S5.2 ha0 ta0 rfl rfl (fun _ h => List.mem_cons_of_mem _ (List.mem_append_left _ (List.mem_append_right _ h))) 7 (by decide) rfl (hts _ (List.mem_of_getElem? (i := 4) rfl)) dX9_told_26 (fun q10 eq10 hq10 tq10 => ?_)
    have tq10 : τ q10 = (28, 0) := tq10
    refine lv_iload_n hx hb dX9_told_29 rfl (lv_at hl 1 rfl) ?_
    refine tr_iald Z.1 Z.2.2.2.1 S5.1 S5.2 hq10 tq10 rfl (by omega) (by omega) dX9_told_30 (fun v11 ev11 lv11 uv11 => ?_)
    refine vx_ret ?_
    refine W.widen (k := 1) (n := 6) (Nat.le_of_ble_eq_true rfl) (Nat.le_of_ble_eq_true rfl) ?_
    exact en_i (x := v11) (post := fun _ _ => True) Z S5 F0_ trivial dX9_told_31
  · skip
    have tc9 := nu_eq c9
    have uc9 : (0 : Int32).toInt = 0 := rfl
    have hat : ∀ w ∈ vx_atX RX9 281 exT 13 nseC exN, w.before args s = true := vx_hat (B := [.declares (exI "java/lang/RuntimeException"), .declares (exI "java/lang/Exception"), .declares (exI "java/lang/Throwable"), .castable exT exT]) (fun w hw => hts w (List.mem_cons_of_mem _ (List.mem_append_right _ hw))) (by decide +kernel) (vx_c (va_Nw.use rfl SZ.2.2.2.1) (vx_c (va_Nw.use rfl SZ.2.2.2.2.1) (vx_c (va_Nw.use rfl SZ.2.2.2.2.2.1) (vx_c (va_Nw.use rfl SZ.2.2.2.2.2.2) vx_n))))
    refine vx_throwSWX (own := RX9) (cls := exT) (names := exN) (text := tx) (sa := sa) (ix := 13) (rx := nseC) hx hb hlt (by decide +kernel) (by decide +kernel) (by decide +kernel) (by decide +kernel) hown (by decide +kernel) (by decide +kernel) (hts _ (List.mem_of_getElem? (i := 1) rfl)) (hts _ (List.mem_of_getElem? (i := 2) rfl)) SZ.2.2.1 hat (by decide +kernel) SZ.1 SZ.2.1 S5.1.2.2 (hl.1.trans hml.symm) dX9_told_14 dX9_told_17 dX9_told_18 dX9_told_21 dX9_told_24 (fun x hx => (hno x hx).elim) (Nat.le_of_ble_eq_true rfl) (Nat.le_of_ble_eq_true rfl) (Nat.le_of_ble_eq_true rfl) (Nat.le_of_ble_eq_true rfl) Z.2.2.1 (fun t ha hs hq => ?_) (fun z hz => S5.1.2.2.2.2 z hz) (Nat.le_of_ble_eq_true rfl) (Nat.le_of_ble_eq_true rfl)
    refine ⟨E, ⟨S5.2, F0_⟩, ⟨rfl, ?_, va_K.moved ha Z.2.2.2.1, S5.1.2.1⟩, Nat.le_trans S5.1.2.2.1 hs, fun q h1 h2 => (hq q (Nat.lt_of_lt_of_le h1 S5.1.2.2.1)).trans (S5.1.2.2.2.1 q h1 h2)⟩
    exact S5.1.1.kept (fun k q hk => hq _ (vx_lt S5.1.1 hk))

