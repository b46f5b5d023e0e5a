theorem dJ7_copyOf_59c91_0 : decode cJ7_copyOf_59c91 0 = .ok (.iload_n 1, 1) := by decide +kernel
theorem dJ7_copyOf_59c91_1 : decode cJ7_copyOf_59c91 1 = .ok (.aload_n 0, 1) := by decide +kernel
theorem dJ7_copyOf_59c91_2 : decode cJ7_copyOf_59c91 2 = .ok (.arraylength, 1) := by decide +kernel
theorem dJ7_copyOf_59c91_3 : decode cJ7_copyOf_59c91 3 = .ok (.if_icmp .ne 11, 3) := by decide +kernel
theorem dJ7_copyOf_59c91_6 : decode cJ7_copyOf_59c91 6 = .ok (.aload_n 0, 1) := by decide +kernel
theorem dJ7_copyOf_59c91_7 : decode cJ7_copyOf_59c91 7 = .ok (.invokevirtual 316, 3) := by decide +kernel
theorem dJ7_copyOf_59c91_10 : decode cJ7_copyOf_59c91 10 = .ok (.checkcast 317, 3) := by decide +kernel
theorem dJ7_copyOf_59c91_13 : decode cJ7_copyOf_59c91 13 = .ok (.areturn, 1) := by decide +kernel
theorem dJ7_copyOf_59c91_14 : decode cJ7_copyOf_59c91 14 = .ok (.iload_n 1, 1) := by decide +kernel
theorem dJ7_copyOf_59c91_15 : decode cJ7_copyOf_59c91 15 = .ok (.newarray .int, 2) := by decide +kernel
theorem dJ7_copyOf_59c91_17 : decode cJ7_copyOf_59c91 17 = .ok (.astore_n 2, 1) := by decide +kernel
theorem dJ7_copyOf_59c91_18 : decode cJ7_copyOf_59c91 18 = .ok (.aload_n 0, 1) := by decide +kernel
theorem dJ7_copyOf_59c91_19 : decode cJ7_copyOf_59c91 19 = .ok (.iconst 0, 1) := by decide +kernel
theorem dJ7_copyOf_59c91_20 : decode cJ7_copyOf_59c91 20 = .ok (.aload_n 2, 1) := by decide +kernel
theorem dJ7_copyOf_59c91_21 : decode cJ7_copyOf_59c91 21 = .ok (.iconst 0, 1) := by decide +kernel
theorem dJ7_copyOf_59c91_22 : decode cJ7_copyOf_59c91 22 = .ok (.aload_n 0, 1) := by decide +kernel
theorem dJ7_copyOf_59c91_23 : decode cJ7_copyOf_59c91 23 = .ok (.arraylength, 1) := by decide +kernel
theorem dJ7_copyOf_59c91_24 : decode cJ7_copyOf_59c91 24 = .ok (.iload_n 1, 1) := by decide +kernel
theorem dJ7_copyOf_59c91_25 : decode cJ7_copyOf_59c91 25 = .ok (.invokestatic 304, 3) := by decide +kernel
theorem dJ7_copyOf_59c91_28 : decode cJ7_copyOf_59c91 28 = .ok (.invokestatic 150, 3) := by decide +kernel
theorem dJ7_copyOf_59c91_31 : decode cJ7_copyOf_59c91 31 = .ok (.aload_n 2, 1) := by decide +kernel
theorem dJ7_copyOf_59c91_32 : decode cJ7_copyOf_59c91 32 = .ok (.areturn, 1) := by decide +kernel
set_option maxHeartbeats 4000000 in
set_option maxRecDepth 100000 in
theorem k_copyOf (l : Launch) (D : va_G) (cy : Nat → ClassId) {G : Sg} {L : List Nat} {τ : Nat → Ro} {E : Ec} (hI : Inv TB cy L τ E) {a0 : Nat} (ha0 : a0 ∈ L) {r0 : Ro} {n0 : Nat} {w0 : Nat → Int × Int} (t0 : τ a0 = r0) (hr0 : tInt r0 = some (0, n0, w0)) (hn64 : n0 ≤ 64) (a1 : Int32) (N : Nat) (hN : a1.toInt = N) (hle : N ≤ n0) (r : Ro) {w1 : Nat → Int × Int} (hr1 : tObj r = none) (hr2 : tInt r = some (0, N, w1)) (hr3 : tRef r = none) (hq : uq r = false) (hK1 : lawK r) (hz : ∀ i : Nat, (w1 i).1 ≤ 0 ∧ 0 ≤ (w1 i).2) (hv : ∀ i : Nat, i < N → (w1 i).1 ≤ (ai E a0 i).toInt ∧ (ai E a0 i).toInt ≤ (w1 i).2) (x : Nat) : CtL1q G l yJ7_copyOf_59c91 wsJ7_copyOf_59c91 { frames := 1, cells := 1, slots := 64, locals := 40 } D cy L τ E [.ref a0, .int a1] x (fun _ => false) 1 64 (fun v L' τ' E' => ∃ q : Nat, v = some q ∧ q ∈ L' ∧ τ' q = r ∧ q ∉ L ∧ (∀ a ∈ L, τ' a = τ a) ∧ ∀ a ∈ L, E' a = E a) := by
  intro sz
  refine staL (cc := cJ7_copyOf_59c91) (maxL := 3) hI (by decide) rfl (Nat.le_of_ble_eq_true rfl) (fun p e s m args below meth c ls hsz hnm Z SZ S0 hl => ?_)
  have hx := Z.1.1
  have hb := Z.1.2.1
  have hts := Z.1.2.2.2.2
  have hl : lv_has ls 3 [(0, .ref a0), (1, .int a1)] := hl
  have hu : uq r = true → ∀ b ∈ L, τ b ≠ r := fun h => by rw [hq] at h; cases h
  refine lv_iload_n hx hb dJ7_copyOf_59c91_0 rfl (lv_at hl 1 rfl) ?_
  refine lv_aload_n hx hb dJ7_copyOf_59c91_1 rfl (lv_at hl 0 rfl) ?_
  refine tr_alen Z.1 Z.2.2.2.1 S0.1 S0.2 ha0 t0 hr0 (by omega) dJ7_copyOf_59c91_2 (fun v tv => ?_)
  refine lv_icmp_ne (tgt := 14) hx hb dJ7_copyOf_59c91_3 (by decide) (fun c1 => ?_) (fun c1 => ?_)
  · skip
    refine lv_iload_n hx hb dJ7_copyOf_59c91_14 rfl (lv_at hl 1 rfl) ?_
    refine tr_newi Z.1 Z.2.2.2.1 Z.2.2.2.2.2 S0 (hts _ (List.mem_of_getElem? (i := 7) rfl)) rfl 0 rfl N hN (fun _ => rfl) (by show N * 4 ≤ 536870912; omega) r hr1 hr2 hr3 hz hu (Nat.le_of_ble_eq_true rfl) (by show 0 + N ≤ 64; omega) dJ7_copyOf_59c91_15 (fun L1 T1 E1 q H1 S1 P1 => ?_)
    refine lv_astore_n (lv' := [(2, .ref q), (0, .ref a0), (1, .int a1)]) hx hb dJ7_copyOf_59c91_17 rfl hl (by decide) rfl (fun l1 hl1 => ?_)
    refine lv_aload_n hx hb dJ7_copyOf_59c91_18 rfl (lv_at hl1 1 rfl) ?_
    obtain ⟨z0, ez0, tz0⟩ : ∃ v : Int32, Int32.ofInt (0) = v ∧ v.toInt = 0 := ⟨_, rfl, by decide +kernel⟩
    refine lv_iconst hx hb dJ7_copyOf_59c91_19 ez0 ?_
    refine lv_aload_n hx hb dJ7_copyOf_59c91_20 rfl (lv_at hl1 0 rfl) ?_
    obtain ⟨z1, ez1, tz1⟩ : ∃ v : Int32, Int32.ofInt (0) = v ∧ v.toInt = 0 := ⟨_, rfl, by decide +kernel⟩
    refine lv_iconst hx hb dJ7_copyOf_59c91_21 ez1 ?_
    refine lv_aload_n hx hb dJ7_copyOf_59c91_22 rfl (lv_at hl1 1 rfl) ?_
    refine tr_alen Z.1 Z.2.2.2.1 S1.1 S1.2 (P1.1 a0 ha0) ((P1.2.1 a0 ha0).trans t0) hr0 (by omega) dJ7_copyOf_59c91_23 (fun v2 tv2 => ?_)
    refine lv_iload_n hx hb dJ7_copyOf_59c91_24 rfl (lv_at hl1 2 rfl) ?_
    refine va_mmin hx hb (Z.1.2.2.1.trans hl1.1.symm) Z.1.2.2.2.1 (hts _ (List.mem_of_getElem? (i := 8) rfl)) (hts _ (List.mem_of_getElem? (i := 9) rfl)) (hts _ (List.mem_of_getElem? (i := 10) rfl)) (hts _ (List.mem_of_getElem? (i := 11) rfl)) (Nat.le_of_ble_eq_true rfl) (Nat.le_of_ble_eq_true rfl) (by show 0 + 1 ≤ 1; omega) (by show 0 + N ≤ 64; omega) dJ7_copyOf_59c91_25 ?_
    refine lv_topi (fun v3 e3 => ?_)
    have t3 := nu_min e3
    refine tr_copyw Z.1 hl1.1 Z.2.2.2.1 S1 (P1.1 a0 ha0) ((P1.2.1 a0 ha0).trans t0) hr0 P1.2.2.2.1 P1.2.2.2.2.1 hr2 N (fun i hi => by rw [ai_cell (P1.2.2.1 a0 ha0)]; exact hv i hi) (hts _ (List.mem_of_getElem? (i := 12) rfl)) (hts _ (List.mem_of_getElem? (i := 13) rfl)) (hts _ (List.mem_of_getElem? (i := 14) rfl)) (hts _ (List.mem_of_getElem? (i := 15) rfl)) hle (Nat.le_refl _) (by omega) (by omega) (by omega) (Nat.le_of_ble_eq_true rfl) (Nat.le_of_ble_eq_true rfl) dJ7_copyOf_59c91_28 (fun E2 H2 k2 S2 o2 => ?_)
    refine lv_aload_n hx hb dJ7_copyOf_59c91_31 rfl (lv_at hl1 0 rfl) ?_
    have hE : ∀ a ∈ L, E2 a = E a := fun a ha => (o2 a (fun z => P1.2.2.2.2.2.1 (z ▸ ha))).trans (P1.2.2.1 a ha)
    have hG : GL x (fun _ => false) L τ E L1 T1 E2 := ⟨P1.1, fun a ha _ => P1.2.1 a ha, fun a ha _ _ => hE a ha, (GL.push (x := x) (wr := fun _ => false) GL.refl P1 hK1).2.2.2⟩
    refine W.widen (k := 1) (n := 64) (Nat.le_of_ble_eq_true rfl) (by omega) ?_
    exact en_qL (v := some q) (post := fun v L9 T9 E9 => ∃ q : Nat, v = some q ∧ q ∈ L9 ∧ T9 q = r ∧ q ∉ L ∧ (∀ a ∈ L, T9 a = τ a) ∧ ∀ a ∈ L, E9 a = E a) Z (Or.inr ⟨_, rfl⟩) S2 hG ⟨q, rfl, P1.2.2.2.1, P1.2.2.2.2.1, P1.2.2.2.2.2.1, P1.2.1, hE⟩ dJ7_copyOf_59c91_32
  · skip
    have tc := nu_eq c1
    have eN : N = n0 := by omega
    subst eN
    refine lv_aload_n hx hb dJ7_copyOf_59c91_6 rfl (lv_at hl 0 rfl) ?_
    refine tr_clone Z.1 hl.1 Z.2.2.2.1 Z.2.2.2.2.2 SZ S0 ha0 t0 hr0 r hr1 hr2 hr3 hu hv (hts _ (List.mem_of_getElem? (i := 1) rfl)) (hts _ (List.mem_of_getElem? (i := 2) rfl)) (hts _ (List.mem_of_getElem? (i := 3) rfl)) (hts _ (List.mem_of_getElem? (i := 4) rfl)) (hts _ (List.mem_of_getElem? (i := 5) rfl)) (Nat.le_of_ble_eq_true rfl) (Nat.le_of_ble_eq_true rfl) (Nat.le_of_ble_eq_true rfl) (by show 0 + N ≤ 64; omega) dJ7_copyOf_59c91_7 (fun L1 T1 E1 q H1 S1 P1 => ?_)
    refine tr_castI Z.1 Z.2.2.2.1 S1 P1.2.2.2.1 P1.2.2.2.2.1 hr2 (hts _ (List.mem_of_getElem? (i := 6) rfl)) dJ7_copyOf_59c91_10 ?_
    refine W.widen (k := 1) (n := 64) (Nat.le_of_ble_eq_true rfl) (by omega) ?_
    exact en_qL (v := some q) (post := fun v L9 T9 E9 => ∃ q : Nat, v = some q ∧ q ∈ L9 ∧ T9 q = r ∧ q ∉ L ∧ (∀ a ∈ L, T9 a = τ a) ∧ ∀ a ∈ L, E9 a = E a) Z (Or.inr ⟨_, rfl⟩) S1 (GL.push GL.refl P1 hK1) ⟨q, rfl, P1.2.2.2.1, P1.2.2.2.2.1, P1.2.2.2.2.2.1, P1.2.1, P1.2.2.1⟩ dJ7_copyOf_59c91_13

set_option maxRecDepth 20000 in
theorem ggX1_init_J7_copyOf_59c91 : GoodIn wsX1_init wsJ7_copyOf_59c91 := goodIn_r _ [21, 22, 23, 24, 25, 26, 27, 28, 29, 30, 31, 32, 33, 34, 35, 36] (by decide +kernel) (by decide +kernel)
set_option maxRecDepth 20000 in
theorem gX1_init_J7_copyOf_59c91 : GoodIn wsX1_init (va_wsS RX1 30 yJ7_copyOf_59c91 wsJ7_copyOf_59c91) := goodIn_app (goodIn_of _ (by decide +kernel)) ggX1_init_J7_copyOf_59c91
theorem dX1_init_0 : decode cX1_init 0 = .ok (.aload_n 0, 1) := by decide +kernel
theorem dX1_init_1 : decode cX1_init 1 = .ok (.invokespecial 3, 3) := by decide +kernel
theorem dX1_init_4 : decode cX1_init 4 = .ok (.aload_n 0, 1) := by decide +kernel
theorem dX1_init_5 : decode cX1_init 5 = .ok (.aload_n 1, 1) := by decide +kernel
theorem dX1_init_6 : decode cX1_init 6 = .ok (.getfield 9, 3) := by decide +kernel
theorem dX1_init_9 : decode cX1_init 9 = .ok (.putfield 15, 3) := by decide +kernel
theorem dX1_init_12 : decode cX1_init 12 = .ok (.aload_n 0, 1) := by decide +kernel
theorem dX1_init_13 : decode cX1_init 13 = .ok (.aload_n 1, 1) := by decide +kernel
theorem dX1_init_14 : decode cX1_init 14 = .ok (.getfield 18, 3) := by decide +kernel
theorem dX1_init_17 : decode cX1_init 17 = .ok (.putfield 21, 3) := by decide +kernel
theorem dX1_init_20 : decode cX1_init 20 = .ok (.aload_n 0, 1) := by decide +kernel
theorem dX1_init_21 : decode cX1_init 21 = .ok (.aload_n 1, 1) := by decide +kernel
theorem dX1_init_22 : decode cX1_init 22 = .ok (.getfield 22, 3) := by decide +kernel
theorem dX1_init_25 : decode cX1_init 25 = .ok (.aload_n 1, 1) := by decide +kernel
theorem dX1_init_26 : decode cX1_init 26 = .ok (.getfield 26, 3) := by decide +kernel
theorem dX1_init_29 : decode cX1_init 29 = .ok (.invokestatic 30, 3) := by decide +kernel
theorem dX1_init_32 : decode cX1_init 32 = .ok (.putfield 36, 3) := by decide +kernel
theorem dX1_init_35 : decode cX1_init 35 = .ok (.aload_n 0, 1) := by decide +kernel
theorem dX1_init_36 : decode cX1_init 36 = .ok (.aload_n 1, 1) := by decide +kernel
theorem dX1_init_37 : decode cX1_init 37 = .ok (.getfield 37, 3) := by decide +kernel
theorem dX1_init_40 : decode cX1_init 40 = .ok (.aload_n 1, 1) := by decide +kernel
theorem dX1_init_41 : decode cX1_init 41 = .ok (.getfield 40, 3) := by decide +kernel
theorem dX1_init_44 : decode cX1_init 44 = .ok (.invokestatic 30, 3) := by decide +kernel
theorem dX1_init_47 : decode cX1_init 47 = .ok (.putfield 43, 3) := by decide +kernel
theorem dX1_init_50 : decode cX1_init 50 = .ok (.aload_n 0, 1) := by decide +kernel
theorem dX1_init_51 : decode cX1_init 51 = .ok (.aload_n 1, 1) := by decide +kernel
theorem dX1_init_52 : decode cX1_init 52 = .ok (.getfield 44, 3) := by decide +kernel
theorem dX1_init_55 : decode cX1_init 55 = .ok (.aload_n 1, 1) := by decide +kernel
theorem dX1_init_56 : decode cX1_init 56 = .ok (.getfield 40, 3) := by decide +kernel
theorem dX1_init_59 : decode cX1_init 59 = .ok (.invokestatic 30, 3) := by decide +kernel
theorem dX1_init_62 : decode cX1_init 62 = .ok (.putfield 47, 3) := by decide +kernel
theorem dX1_init_65 : decode cX1_init 65 = .ok (.aload_n 0, 1) := by decide +kernel
theorem dX1_init_66 : decode cX1_init 66 = .ok (.aload_n 1, 1) := by decide +kernel
theorem dX1_init_67 : decode cX1_init 67 = .ok (.getfield 48, 3) := by decide +kernel
theorem dX1_init_70 : decode cX1_init 70 = .ok (.aload_n 1, 1) := by decide +kernel
theorem dX1_init_71 : decode cX1_init 71 = .ok (.getfield 40, 3) := by decide +kernel
theorem dX1_init_74 : decode cX1_init 74 = .ok (.invokestatic 30, 3) := by decide +kernel
theorem dX1_init_77 : decode cX1_init 77 = .ok (.putfield 51, 3) := by decide +kernel
theorem dX1_init_80 : decode cX1_init 80 = .ok (.return_, 1) := by decide +kernel
set_option maxHeartbeats 4000000 in
set_option maxRecDepth 100000 in
theorem k_X1_init (l : Launch) (D : va_G) (cy : Nat → ClassId) {G : Sg} {L : List Nat} {τ : Nat → Ro} {E : Ec} (hI : Inv TB cy L τ E) {a0 : Nat} (ha0 : a0 ∈ L) (ta0 : τ a0 = (210, 0)) (he0 : E a0 = .inr (1, [.int 0, .int 0, .null, .null, .null, .null])) {a1 : Nat} (ha1 : a1 ∈ L) (ta1 : τ a1 = (7, 0)) {qe qs : Nat} (hqe : qe ∈ L) (tqe : τ qe = (33, 0)) (hqs : qs ∈ L) (tqs : τ qs = (36, 0)) (hR : RdW E a1 qe qs) : CtL1v G l yX1_init wsX1_init { frames := 2, cells := 4, slots := 256, locals := 62 } D cy L τ E [.ref a0, .ref a1] a0 (fun _ => false) 4 256 (fun L' τ' E' => (τ' a0).1 = 10) := by
  intro sz
  refine staL (cc := cX1_init) (maxL := 2) hI (by decide) rfl (Nat.le_of_ble_eq_true rfl) (fun p e s m args below meth c ls hsz hnm Z SZ S0 hl => ?_)
  have hx := Z.1.1
  have hb := Z.1.2.1
  have hts := Z.1.2.2.2.2
  have hnm : meth.name = "<init>" := hnm
  have hl : lv_has ls 2 [(0, .ref a0), (1, .ref a1)] := hl
  have r7 := fi_rng (k := 7) hI ha1 ta1 rfl rfl
  have r8 := fi_rng (k := 8) hI ha1 ta1 rfl rfl
  have r9 := fi_rng (k := 9) hI ha1 ta1 rfl rfl
  obtain ⟨n, hn⟩ : ∃ n : Nat, n = (fi E a1 9).toInt.toNat * 16 + (fi E a1 8).toInt.toNat * 2 + (fi E a1 7).toInt.toNat := ⟨_, rfl⟩
  have n1 : ((n / 16 : Nat) : Int) = (fi E a1 9).toInt := by omega
  have n2 : ((n / 2 % 8 : Nat) : Int) = (fi E a1 8).toInt := by omega
  have n3 : ((n % 2 : Nat) : Int) = (fi E a1 7).toInt := by omega
  refine lv_aload_n hx hb dX1_init_0 rfl (lv_at hl 0 rfl) ?_
  refine tr_obj Z.1 hl.1 (hts _ (List.mem_of_getElem? (i := 1) rfl)) (hts _ (List.mem_of_getElem? (i := 2) rfl)) (hts _ (List.mem_of_getElem? (i := 3) rfl)) dX1_init_1 (Nat.le_of_ble_eq_true rfl) (Nat.le_of_ble_eq_true rfl) ?_
  have G0 : GL a0 (fun _ => false) L τ E L τ E := GL.refl
  have ne1 : a1 ≠ a0 := ne_ro ta1 ta0 (by decide)
  have q0 : ∀ a ∈ L, a ≠ a0 → E a = E a := fun _ _ _ => rfl
  refine lv_aload_n hx hb dX1_init_4 rfl (lv_at hl 0 rfl) ?_
  refine lv_aload_n hx hb dX1_init_5 rfl (lv_at hl 1 rfl) ?_
  refine tr_geti Z.1 Z.2.2.2.1 S0.1 S0.2 ha1 ta1 rfl rfl (fun _ h => List.mem_cons_of_mem _ (List.mem_append_left _ (List.mem_append_right _ h))) 6 (by decide) rfl (hts _ (List.mem_of_getElem? (i := 4) rfl)) dX1_init_6 (fun v6 ev6 lv6 uv6 => ?_)
  have xv6 : v6 = fi E a1 6 := by first | (rw [← ev6]; done) | (rw [← ev6]; simp only [fi, fv, q0 a1 ha1 ne1])
  have yv6 : v6.toInt = (fi E a1 6).toInt := by rw [xv6]
  refine tr_putR Z.1 Z.2.2.2.1 S0 ha0 ta0 rfl rfl rfl he0 rfl (fun _ h => List.mem_cons_of_mem _ (List.mem_append_right _ h)) tyX1_ok nmX1 0 (by decide) (Nat.le_of_ble_eq_true rfl) (Or.inr ⟨hnm, rfl, rfl⟩) (hts _ (List.mem_of_getElem? (i := 5) rfl)) dX1_init_9 (by rcases zo v6 (by omega) with h | h <;> rw [h] <;> decide +kernel) (by rcases zo v6 (by omega) with h | h <;> rw [h] <;> decide +kernel) (fun E1 H1 k1 S1 o1 g1 => ?_)
  have h1 : E1 a0 = .inr (1, [.int v6, .int 0, .null, .null, .null, .null]) := g1
  have G1 : GL a0 (fun _ => false) L τ E L τ E1 := GL.wr G0 o1 rfl
  have q1 : ∀ a ∈ L, a ≠ a0 → E1 a = E a := fun a ha hx => (o1 a hx).trans (q0 a ha hx)
  refine lv_aload_n hx hb dX1_init_12 rfl (lv_at hl 0 rfl) ?_
  refine lv_aload_n hx hb dX1_init_13 rfl (lv_at hl 1 rfl) ?_
  refine tr_geti Z.1 Z.2.2.2.1 S1.1 S1.2 ha1 ta1 rfl rfl (fun _ h => List.mem_cons_of_mem _ (List.mem_append_left _ (List.mem_append_right _ h))) 7 (by decide) rfl (hts _ (List.mem_of_getElem? (i := 6) rfl)) dX1_init_14 (fun v7 ev7 lv7 uv7 => ?_)
  have xv7 : v7 = fi E a1 7 := by first | (rw [← ev7]; done) | (rw [← ev7]; simp only [fi, fv, q1 a1 ha1 ne1])
  have yv7 : v7.toInt = (fi E a1 7).toInt := by rw [xv7]
  refine tr_putR Z.1 Z.2.2.2.1 S1 ha0 ta0 rfl rfl rfl h1 rfl (fun _ h => List.mem_cons_of_mem _ (List.mem_append_right _ h)) tyX1_ok nmX1 1 (by decide) (Nat.le_of_ble_eq_true rfl) (Or.inr ⟨hnm, rfl, rfl⟩) (hts _ (List.mem_of_getElem? (i := 7) rfl)) dX1_init_17 (by rcases zo v7 (by omega) with h | h <;> rw [h] <;> decide +kernel) (by rcases zo v7 (by omega) with h | h <;> rw [h] <;> decide +kernel) (fun E2 H2 k2 S2 o2 g2 => ?_)
  have h2 : E2 a0 = .inr (1, [.int v6, .int v7, .null, .null, .null, .null]) := g2
  have G2 : GL a0 (fun _ => false) L τ E L τ E2 := GL.wr G1 o2 rfl
  have q2 : ∀ a ∈ L, a ≠ a0 → E2 a = E a := fun a ha hx => (o2 a hx).trans (q1 a ha hx)
  refine lv_aload_n hx hb dX1_init_20 rfl (lv_at hl 0 rfl) ?_
  refine lv_aload_n hx hb dX1_init_21 rfl (lv_at hl 1 rfl) ?_
  refine tr_getr Z.1 Z.2.2.2.1 S2.1 S2.2 ha1 ta1 rfl rfl (fun _ h => List.mem_cons_of_mem _ (List.mem_append_left _ (List.mem_append_right _ h))) 10 (by decide) rfl (hts _ (List.mem_of_getElem? (i := 8) rfl)) dX1_init_22 (fun r120 er120 hr120 tr120 => ?_)
  have tr120 : τ r120 = (33, 0) := tr120
  have mr120 : r120 ∈ L := (G2.2.2.2 r120 hr120).elim id (fun z => by rw [tr120] at z; rcases z with z | z | z | z | z <;> exact absurd z (by decide))
  have nqr120 : r120 ≠ a0 := ne_ro tr120 ta0 (by decide)
  have sr120 : τ r120 = (33, 0) := (G2.2.1 r120 mr120 nqr120).symm.trans tr120
  refine lv_aload_n hx hb dX1_init_25 rfl (lv_at hl 1 rfl) ?_
  refine tr_geti Z.1 Z.2.2.2.1 S2.1 S2.2 ha1 ta1 rfl rfl (fun _ h => List.mem_cons_of_mem _ (List.mem_append_left _ (List.mem_append_right _ h))) 8 (by decide) rfl (hts _ (List.mem_of_getElem? (i := 9) rfl)) dX1_init_26 (fun l120 el120 ll120 ul120 => ?_)
  have xl120 : l120 = fi E a1 8 := by first | (rw [← el120]; done) | (rw [← el120]; simp only [fi, fv, q2 a1 ha1 ne1])
  have yl120 : l120.toInt = (fi E a1 8).toInt := by rw [xl120]
  have ur120 : qe = r120 := hI.2.2.2 _ hqe _ mr120 (tqe.trans sr120.symm) (by rw [tqe]; rfl)
  subst ur120
  refine tc_Lsq Z.1 Z.2.2.2.1 Z.2.2.2.2.1 Z.2.2.2.2.2 SZ S2 (k_copyOf l D cy S2.2 hr120 tr120 rfl (by decide) l120 (n / 2 % 8) (by omega) (by omega) (120, n) rfl rfl rfl rfl (Or.inr (Or.inl rfl)) (fun i => ⟨Int.le_refl _, by show (0 : Int) ≤ ((n / 16 : Nat) : Int); omega⟩) (fun i hi => by rw [ai_cell (q2 qe mr120 nqr120)]; have h1 := ai_rng hI mr120 sr120 rfl (show i < 4 by omega); have h2 := hR.2 i (by omega); exact ⟨h1.1, by show _ ≤ ((n / 16 : Nat) : Int); omega⟩) a0) (va_cwS 2 hts gX1_init_J7_copyOf_59c91 rfl rfl rfl (by decide +kernel) ⟨Nat.le_of_ble_eq_true rfl, Nat.le_of_ble_eq_true rfl⟩) rfl hl.1 rfl (Nat.le_of_ble_eq_true rfl) dX1_init_29 ⟨Nat.le_of_ble_eq_true rfl, Nat.le_of_ble_eq_true rfl⟩ (fun oc120 Lc120 Tc120 Ec120 Hc120 kc120 Sc120 Fc120 pc120 => ?_)
  obtain ⟨c120, rfl, hc120, tc120, fc120, T1c120, E1c120⟩ := pc120
  refine W.eq (g2 := F0 m 32 ls [.ref c120, .ref a0]) rfl ?_
  have hac120 : a0 ∈ Lc120 := Fc120.1 _ ha0
  have tac120 : Tc120 a0 = (210, 0) := (T1c120 _ ha0).trans ta0
  have h1c120 : a1 ∈ Lc120 := Fc120.1 _ ha1
  have t1c120 : Tc120 a1 = (7, 0) := (T1c120 _ ha1).trans ta1
  have hec120 : Ec120 a0 = .inr (1, [.int v6, .int v7, .null, .null, .null, .null]) := (E1c120 _ ha0).trans h2
  have qc120 : ∀ a ∈ L, a ≠ a0 → Ec120 a = E a := fun a ha hx => (E1c120 a (G2.1 a ha)).trans (q2 a ha hx)
  have Gc120 : GL a0 (fun _ => false) L τ E Lc120 Tc120 Ec120 := ⟨fun a ha => Fc120.1 a (G2.1 a ha), fun a ha hx => (T1c120 a (G2.1 a ha)).trans (G2.2.1 a ha hx), fun a ha hx _ => qc120 a ha hx, fun b hb => by
      rcases Fc120.2.2.2 b hb with z | z
      · rcases G2.2.2.2 b z with y | y
        · exact Or.inl y
        · exact Or.inr (by rw [T1c120 b z]; exact y)
      · exact Or.inr z⟩
  refine tr_putR Z.1 Z.2.2.2.1 Sc120 hac120 tac120 rfl rfl rfl hec120 rfl (fun _ h => List.mem_cons_of_mem _ (List.mem_append_right _ h)) tyX1_ok nmX1 2 (by decide) (Nat.le_of_ble_eq_true rfl) (Or.inr ⟨hnm, rfl, rfl⟩) (hts _ (List.mem_of_getElem? (i := 10) rfl)) dX1_init_32 rfl rfl (fun Ew120 Hw120 kw120 Sw120 ow120 gw120 => ?_)
  have hw120 : Ew120 a0 = .inr (1, [.int v6, .int v7, .ref c120, .null, .null, .null]) := gw120
  have Gw120 : GL a0 (fun _ => false) L τ E Lc120 Tc120 Ew120 := GL.wr Gc120 ow120 rfl
  have qw120 : ∀ a ∈ L, a ≠ a0 → Ew120 a = E a := fun a ha hx => (ow120 a hx).trans (qc120 a ha hx)
  refine lv_aload_n hx hb dX1_init_35 rfl (lv_at hl 0 rfl) ?_
  refine lv_aload_n hx hb dX1_init_36 rfl (lv_at hl 1 rfl) ?_
  refine tr_getr Z.1 Z.2.2.2.1 Sw120.1 Sw120.2 h1c120 t1c120 rfl rfl (fun _ h => List.mem_cons_of_mem _ (List.mem_append_left _ (List.mem_append_right _ h))) 11 (by decide) rfl (hts _ (List.mem_of_getElem? (i := 11) rfl)) dX1_init_37 (fun r121 er121 hr121 tr121 => ?_)
  have tr121 : Tc120 r121 = (34, 0) := tr121
  have mr121 : r121 ∈ L := (Gw120.2.2.2 r121 hr121).elim id (fun z => by rw [tr121] at z; rcases z with z | z | z | z | z <;> exact absurd z (by decide))
  have nqr121 : r121 ≠ a0 := ne_ro tr121 tac120 (by decide)
  have sr121 : τ r121 = (34, 0) := (Gw120.2.1 r121 mr121 nqr121).symm.trans tr121
  refine lv_aload_n hx hb dX1_init_40 rfl (lv_at hl 1 rfl) ?_
  refine tr_geti Z.1 Z.2.2.2.1 Sw120.1 Sw120.2 h1c120 t1c120 rfl rfl (fun _ h => List.mem_cons_of_mem _ (List.mem_append_left _ (List.mem_append_right _ h))) 9 (by decide) rfl (hts _ (List.mem_of_getElem? (i := 12) rfl)) dX1_init_41 (fun l121 el121 ll121 ul121 => ?_)
  have xl121 : l121 = fi E a1 9 := by first | (rw [← el121]; done) | (rw [← el121]; simp only [fi, fv, qw120 a1 ha1 ne1])
  have yl121 : l121.toInt = (fi E a1 9).toInt := by rw [xl121]
  refine tc_Lsq Z.1 Z.2.2.2.1 Z.2.2.2.2.1 Z.2.2.2.2.2 SZ Sw120 (k_copyOf l D cy Sw120.2 hr121 tr121 rfl (by decide) l121 (n / 16) (by omega) (by omega) (121, n) rfl rfl rfl rfl (Or.inr (Or.inr (Or.inl rfl))) (fun i => ⟨(by decide : (-2147483648 : Int) ≤ 0), (by decide : (0 : Int) ≤ 2147483647)⟩) (fun i hi => by have := fb_rng (ai Ew120 r121 i); exact ⟨by show (-2147483648 : Int) ≤ _; omega, by show _ ≤ (2147483647 : Int); omega⟩) a0) (va_cwS 2 hts gX1_init_J7_copyOf_59c91 rfl rfl rfl (by decide +kernel) ⟨Nat.le_of_ble_eq_true rfl, Nat.le_of_ble_eq_true rfl⟩) rfl hl.1 rfl (Nat.le_of_ble_eq_true rfl) dX1_init_44 ⟨Nat.le_of_ble_eq_true rfl, Nat.le_of_ble_eq_true rfl⟩ (fun oc121 Lc121 Tc121 Ec121 Hc121 kc121 Sc121 Fc121 pc121 => ?_)
  obtain ⟨c121, rfl, hc121, tc121, fc121, T1c121, E1c121⟩ := pc121
  refine W.eq (g2 := F0 m 47 ls [.ref c121, .ref a0]) rfl ?_
  have hac121 : a0 ∈ Lc121 := Fc121.1 _ hac120
  have tac121 : Tc121 a0 = (210, 0) := (T1c121 _ hac120).trans tac120
  have h1c121 : a1 ∈ Lc121 := Fc121.1 _ h1c120
  have t1c121 : Tc121 a1 = (7, 0) := (T1c121 _ h1c120).trans t1c120
  have hec121 : Ec121 a0 = .inr (1, [.int v6, .int v7, .ref c120, .null, .null, .null]) := (E1c121 _ hac120).trans hw120
  have qc121 : ∀ a ∈ L, a ≠ a0 → Ec121 a = E a := fun a ha hx => (E1c121 a (Gw120.1 a ha)).trans (qw120 a ha hx)
  have Gc121 : GL a0 (fun _ => false) L τ E Lc121 Tc121 Ec121 := ⟨fun a ha => Fc121.1 a (Gw120.1 a ha), fun a ha hx => (T1c121 a (Gw120.1 a ha)).trans (Gw120.2.1 a ha hx), fun a ha hx _ => qc121 a ha hx, fun b hb => by
      rcases Fc121.2.2.2 b hb with z | z
      · rcases Gw120.2.2.2 b z with y | y
        · exact Or.inl y
        · exact Or.inr (by rw [T1c121 b z]; exact y)
      · exact Or.inr z⟩
  have Hc120c121 : c120 ∈ Lc121 := Fc121.1 _ hc120
  have Rc120c121 : Tc121 c120 = (120, n) := (T1c121 _ hc120).trans tc120
  refine tr_putR Z.1 Z.2.2.2.1 Sc121 hac121 tac121 rfl rfl rfl hec121 rfl (fun _ h => List.mem_cons_of_mem _ (List.mem_append_right _ h)) tyX1_ok nmX1 3 (by decide) (Nat.le_of_ble_eq_true rfl) (Or.inr ⟨hnm, rfl, rfl⟩) (hts _ (List.mem_of_getElem? (i := 13) rfl)) dX1_init_47 rfl rfl (fun Ew121 Hw121 kw121 Sw121 ow121 gw121 => ?_)
  have hw121 : Ew121 a0 = .inr (1, [.int v6, .int v7, .ref c120, .ref c121, .null, .null]) := gw121
  have Gw121 : GL a0 (fun _ => false) L τ E Lc121 Tc121 Ew121 := GL.wr Gc121 ow121 rfl
  have qw121 : ∀ a ∈ L, a ≠ a0 → Ew121 a = E a := fun a ha hx => (ow121 a hx).trans (qc121 a ha hx)
  refine lv_aload_n hx hb dX1_init_50 rfl (lv_at hl 0 rfl) ?_
  refine lv_aload_n hx hb dX1_init_51 rfl (lv_at hl 1 rfl) ?_
  refine tr_getr Z.1 Z.2.2.2.1 Sw121.1 Sw121.2 h1c121 t1c121 rfl rfl (fun _ h => List.mem_cons_of_mem _ (List.mem_append_left _ (List.mem_append_right _ h))) 12 (by decide) rfl (hts _ (List.mem_of_getElem? (i := 14) rfl)) dX1_init_52 (fun r122 er122 hr122 tr122 => ?_)
  have tr122 : Tc121 r122 = (35, 0) := tr122
  have mr122 : r122 ∈ L := (Gw121.2.2.2 r122 hr122).elim id (fun z => by rw [tr122] at z; rcases z with z | z | z | z | z <;> exact absurd z (by decide))
  have nqr122 : r122 ≠ a0 := ne_ro tr122 tac121 (by decide)
  have sr122 : τ r122 = (35, 0) := (Gw121.2.1 r122 mr122 nqr122).symm.trans tr122
  refine lv_aload_n hx hb dX1_init_55 rfl (lv_at hl 1 rfl) ?_
  refine tr_geti Z.1 Z.2.2.2.1 Sw121.1 Sw121.2 h1c121 t1c121 rfl rfl (fun _ h => List.mem_cons_of_mem _ (List.mem_append_left _ (List.mem_append_right _ h))) 9 (by decide) rfl (hts _ (List.mem_of_getElem? (i := 12) rfl)) dX1_init_56 (fun l122 el122 ll122 ul122 => ?_)
  have xl122 : l122 = fi E a1 9 := by first | (rw [← el122]; done) | (rw [← el122]; simp only [fi, fv, qw121 a1 ha1 ne1])
  have yl122 : l122.toInt = (fi E a1 9).toInt := by rw [xl122]
  refine tc_Lsq Z.1 Z.2.2.2.1 Z.2.2.2.2.1 Z.2.2.2.2.2 SZ Sw121 (k_copyOf l D cy Sw121.2 hr122 tr122 rfl (by decide) l122 (n / 16) (by omega) (by omega) (122, n) rfl rfl rfl rfl (Or.inr (Or.inr (Or.inr (Or.inl rfl)))) (fun i => ⟨(by decide : (0 : Int) ≤ 0), (by decide : (0 : Int) ≤ 12)⟩) (fun i hi => by rw [ai_cell (qw121 r122 mr122 nqr122)]; exact ai_rng hI mr122 sr122 rfl (show i < 64 by omega)) a0) (va_cwS 2 hts gX1_init_J7_copyOf_59c91 rfl rfl rfl (by decide +kernel) ⟨Nat.le_of_ble_eq_true rfl, Nat.le_of_ble_eq_true rfl⟩) rfl hl.1 rfl (Nat.le_of_ble_eq_true rfl) dX1_init_59 ⟨Nat.le_of_ble_eq_true rfl, Nat.le_of_ble_eq_true rfl⟩ (fun oc122 Lc122 Tc122 Ec122 Hc122 kc122 Sc122 Fc122 pc122 => ?_)
  obtain ⟨c122, rfl, hc122, tc122, fc122, T1c122, E1c122⟩ := pc122
  refine W.eq (g2 := F0 m 62 ls [.ref c122, .ref a0]) rfl ?_
  have hac122 : a0 ∈ Lc122 := Fc122.1 _ hac121
  have tac122 : Tc122 a0 = (210, 0) := (T1c122 _ hac121).trans tac121
  have h1c122 : a1 ∈ Lc122 := Fc122.1 _ h1c121
  have t1c122 : Tc122 a1 = (7, 0) := (T1c122 _ h1c121).trans t1c121
  have hec122 : Ec122 a0 = .inr (1, [.int v6, .int v7, .ref c120, .ref c121, .null, .null]) := (E1c122 _ hac121).trans hw121
  have qc122 : ∀ a ∈ L, a ≠ a0 → Ec122 a = E a := fun a ha hx => (E1c122 a (Gw121.1 a ha)).trans (qw121 a ha hx)
  have Gc122 : GL a0 (fun _ => false) L τ E Lc122 Tc122 Ec122 := ⟨fun a ha => Fc122.1 a (Gw121.1 a ha), fun a ha hx => (T1c122 a (Gw121.1 a ha)).trans (Gw121.2.1 a ha hx), fun a ha hx _ => qc122 a ha hx, fun b hb => by
      rcases Fc122.2.2.2 b hb with z | z
      · rcases Gw121.2.2.2 b z with y | y
        · exact Or.inl y
        · exact Or.inr (by rw [T1c122 b z]; exact y)
      · exact Or.inr z⟩
  have Hc120c122 : c120 ∈ Lc122 := Fc122.1 _ Hc120c121
  have Rc120c122 : Tc122 c120 = (120, n) := (T1c122 _ Hc120c121).trans Rc120c121
  have Hc121c122 : c121 ∈ Lc122 := Fc122.1 _ hc121
  have Rc121c122 : Tc122 c121 = (121, n) := (T1c122 _ hc121).trans tc121
  refine tr_putR Z.1 Z.2.2.2.1 Sc122 hac122 tac122 rfl rfl rfl hec122 rfl (fun _ h => List.mem_cons_of_mem _ (List.mem_append_right _ h)) tyX1_ok nmX1 4 (by decide) (Nat.le_of_ble_eq_true rfl) (Or.inr ⟨hnm, rfl, rfl⟩) (hts _ (List.mem_of_getElem? (i := 15) rfl)) dX1_init_62 rfl rfl (fun Ew122 Hw122 kw122 Sw122 ow122 gw122 => ?_)
  have hw122 : Ew122 a0 = .inr (1, [.int v6, .int v7, .ref c120, .ref c121, .ref c122, .null]) := gw122
  have Gw122 : GL a0 (fun _ => false) L τ E Lc122 Tc122 Ew122 := GL.wr Gc122 ow122 rfl
  have qw122 : ∀ a ∈ L, a ≠ a0 → Ew122 a = E a := fun a ha hx => (ow122 a hx).trans (qc122 a ha hx)
  refine lv_aload_n hx hb dX1_init_65 rfl (lv_at hl 0 rfl) ?_
  refine lv_aload_n hx hb dX1_init_66 rfl (lv_at hl 1 rfl) ?_
  refine tr_getr Z.1 Z.2.2.2.1 Sw122.1 Sw122.2 h1c122 t1c122 rfl rfl (fun _ h => List.mem_cons_of_mem _ (List.mem_append_left _ (List.mem_append_right _ h))) 13 (by decide) rfl (hts _ (List.mem_of_getElem? (i := 16) rfl)) dX1_init_67 (fun r123 er123 hr123 tr123 => ?_)
  have tr123 : Tc122 r123 = (36, 0) := tr123
  have mr123 : r123 ∈ L := (Gw122.2.2.2 r123 hr123).elim id (fun z => by rw [tr123] at z; rcases z with z | z | z | z | z <;> exact absurd z (by decide))
  have nqr123 : r123 ≠ a0 := ne_ro tr123 tac122 (by decide)
  have sr123 : τ r123 = (36, 0) := (Gw122.2.1 r123 mr123 nqr123).symm.trans tr123
  refine lv_aload_n hx hb dX1_init_70 rfl (lv_at hl 1 rfl) ?_
  refine tr_geti Z.1 Z.2.2.2.1 Sw122.1 Sw122.2 h1c122 t1c122 rfl rfl (fun _ h => List.mem_cons_of_mem _ (List.mem_append_left _ (List.mem_append_right _ h))) 9 (by decide) rfl (hts _ (List.mem_of_getElem? (i := 12) rfl)) dX1_init_71 (fun l123 el123 ll123 ul123 => ?_)
  have xl123 : l123 = fi E a1 9 := by first | (rw [← el123]; done) | (rw [← el123]; simp only [fi, fv, qw122 a1 ha1 ne1])
  have yl123 : l123.toInt = (fi E a1 9).toInt := by rw [xl123]
  have ur123 : qs = r123 := hI.2.2.2 _ hqs _ mr123 (tqs.trans sr123.symm) (by rw [tqs]; rfl)
  subst ur123
  refine tc_Lsq Z.1 Z.2.2.2.1 Z.2.2.2.2.1 Z.2.2.2.2.2 SZ Sw122 (k_copyOf l D cy Sw122.2 hr123 tr123 rfl (by decide) l123 (n / 16) (by omega) (by omega) (123, n) rfl rfl rfl rfl (Or.inr (Or.inr (Or.inr (Or.inr rfl)))) (fun i => ⟨Int.le_refl _, by show (0 : Int) ≤ ((n % 2 : Nat) : Int); omega⟩) (fun i hi => by rw [ai_cell (qw122 qs mr123 nqr123)]; have h1 := ai_rng hI mr123 sr123 rfl (show i < 64 by omega); have h2 := hR.1 i (by omega); exact ⟨h1.1, by show _ ≤ ((n % 2 : Nat) : Int); omega⟩) a0) (va_cwS 2 hts gX1_init_J7_copyOf_59c91 rfl rfl rfl (by decide +kernel) ⟨Nat.le_of_ble_eq_true rfl, Nat.le_of_ble_eq_true rfl⟩) rfl hl.1 rfl (Nat.le_of_ble_eq_true rfl) dX1_init_74 ⟨Nat.le_of_ble_eq_true rfl, Nat.le_of_ble_eq_true rfl⟩ (fun oc123 Lc123 Tc123 Ec123 Hc123 kc123 Sc123 Fc123 pc123 => ?_)
  obtain ⟨c123, rfl, hc123, tc123, fc123, T1c123, E1c123⟩ := pc123
  refine W.eq (g2 := F0 m 77 ls [.ref c123, .ref a0]) rfl ?_
  have hac123 : a0 ∈ Lc123 := Fc123.1 _ hac122
  have tac123 : Tc123 a0 = (210, 0) := (T1c123 _ hac122).trans tac122
  have h1c123 : a1 ∈ Lc123 := Fc123.1 _ h1c122
  have t1c123 : Tc123 a1 = (7, 0) := (T1c123 _ h1c122).trans t1c122
  have hec123 : Ec123 a0 = .inr (1, [.int v6, .int v7, .ref c120, .ref c121, .ref c122, .null]) := (E1c123 _ hac122).trans hw122
  have qc123 : ∀ a ∈ L, a ≠ a0 → Ec123 a = E a := fun a ha hx => (E1c123 a (Gw122.1 a ha)).trans (qw122 a ha hx)
  have Gc123 : GL a0 (fun _ => false) L τ E Lc123 Tc123 Ec123 := ⟨fun a ha => Fc123.1 a (Gw122.1 a ha), fun a ha hx => (T1c123 a (Gw122.1 a ha)).trans (Gw122.2.1 a ha hx), fun a ha hx _ => qc123 a ha hx, fun b hb => by
      rcases Fc123.2.2.2 b hb with z | z
      · rcases Gw122.2.2.2 b z with y | y
        · exact Or.inl y
        · exact Or.inr (by rw [T1c123 b z]; exact y)
      · exact Or.inr z⟩
  have Hc120c123 : c120 ∈ Lc123 := Fc123.1 _ Hc120c122
  have Rc120c123 : Tc123 c120 = (120, n) := (T1c123 _ Hc120c122).trans Rc120c122
  have Hc121c123 : c121 ∈ Lc123 := Fc123.1 _ Hc121c122
  have Rc121c123 : Tc123 c121 = (121, n) := (T1c123 _ Hc121c122).trans Rc121c122
  have Hc122c123 : c122 ∈ Lc123 := Fc123.1 _ hc122
  have Rc122c123 : Tc123 c122 = (122, n) := (T1c123 _ hc122).trans tc122
  refine tr_putR Z.1 Z.2.2.2.1 Sc123 hac123 tac123 rfl rfl rfl hec123 rfl (fun _ h => List.mem_cons_of_mem _ (List.mem_append_right _ h)) tyX1_ok nmX1 5 (by decide) (Nat.le_of_ble_eq_true rfl) (Or.inr ⟨hnm, rfl, rfl⟩) (hts _ (List.mem_of_getElem? (i := 17) rfl)) dX1_init_77 rfl rfl (fun Ew123 Hw123 kw123 Sw123 ow123 gw123 => ?_)
  have hw123 : Ew123 a0 = .inr (1, [.int v6, .int v7, .ref c120, .ref c121, .ref c122, .ref c123]) := gw123
  have Gw123 : GL a0 (fun _ => false) L τ E Lc123 Tc123 Ew123 := GL.wr Gc123 ow123 rfl
  have qw123 : ∀ a ∈ L, a ≠ a0 → Ew123 a = E a := fun a ha hx => (ow123 a hx).trans (qc123 a ha hx)
  have IR : Inv TB cy Lc123 (upT Tc123 a0 (10, n)) Ew123 := inv_role Sw123.2 tac123 (by decide) (fun h => nomatch h) (fun ci ts h => by
      have h : some ((1 : Nat), ([(0, 0, 1), (0, ((n % 2 : Nat) : Int), ((n % 2 : Nat) : Int)), (1, 120, (n : Int)), (1, 121, (n : Int)), (1, 122, (n : Int)), (1, 123, (n : Int))] : List Ft)) = some (ci, ts) := h
      cases h
      exact okO_of hw123 ⟨⟨v6, rfl, by dsimp only; omega, by dsimp only; omega⟩, ⟨v7, rfl, by show ((n % 2 : Nat) : Int) ≤ _; omega, by show _ ≤ ((n % 2 : Nat) : Int); omega⟩, ⟨c120, rfl, Hc120c123, (upT_ne (ne_ro Rc120c123 tac123 (fun z => absurd (congrArg Prod.fst z) (show ¬ ((120 : Nat) = 210) by decide)))).trans (Rc120c123.trans (Prod.ext rfl (by show n = ((n : Int)).toNat; omega)))⟩, ⟨c121, rfl, Hc121c123, (upT_ne (ne_ro Rc121c123 tac123 (fun z => absurd (congrArg Prod.fst z) (show ¬ ((121 : Nat) = 210) by decide)))).trans (Rc121c123.trans (Prod.ext rfl (by show n = ((n : Int)).toNat; omega)))⟩, ⟨c122, rfl, Hc122c123, (upT_ne (ne_ro Rc122c123 tac123 (fun z => absurd (congrArg Prod.fst z) (show ¬ ((122 : Nat) = 210) by decide)))).trans (Rc122c123.trans (Prod.ext rfl (by show n = ((n : Int)).toNat; omega)))⟩, ⟨c123, rfl, hc123, (upT_ne (ne_ro tc123 tac123 (fun z => absurd (congrArg Prod.fst z) (show ¬ ((123 : Nat) = 210) by decide)))).trans (tc123.trans (Prod.ext rfl (by show n = ((n : Int)).toNat; omega)))⟩, trivial⟩) (fun _ _ _ h => nomatch h) (fun _ _ _ h => nomatch h)
  exact en_vL (post := fun _ T9 _ => (T9 a0).1 = 10) Z ⟨Sw123.1, IR⟩ (GL.role Gw123 ha0) (by rw [upT_self]) dX1_init_80

