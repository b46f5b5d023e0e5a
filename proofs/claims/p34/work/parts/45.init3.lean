set_option maxRecDepth 20000 in
theorem ggX3_init_X4_init : GoodIn wsX3_init wsX4_init := goodIn_r _ [12, 13, 2, 3, 14, 15, 16, 17, 18, 19, 20, 21, 22, 23, 24, 25, 26, 27, 28, 29, 30, 31, 35, 36, 37, 38, 39, 40, 41, 42, 43, 44, 45, 46, 47, 48, 49, 50] (by decide +kernel) (by decide +kernel)
set_option maxRecDepth 20000 in
theorem gX3_init_X4_init : GoodIn wsX3_init (wsX4_init) := ggX3_init_X4_init
theorem dX3_init_0 : decode cX3_init 0 = .ok (.aload_n 0, 1) := by decide +kernel
theorem dX3_init_1 : decode cX3_init 1 = .ok (.invokespecial 1, 3) := by decide +kernel
theorem dX3_init_4 : decode cX3_init 4 = .ok (.aload_n 0, 1) := by decide +kernel
theorem dX3_init_5 : decode cX3_init 5 = .ok (.bipush 40, 2) := by decide +kernel
theorem dX3_init_7 : decode cX3_init 7 = .ok (.anewarray 9, 3) := by decide +kernel
theorem dX3_init_10 : decode cX3_init 10 = .ok (.putfield 11, 3) := by decide +kernel
theorem dX3_init_13 : decode cX3_init 13 = .ok (.aload_n 0, 1) := by decide +kernel
theorem dX3_init_14 : decode cX3_init 14 = .ok (.iconst 0, 1) := by decide +kernel
theorem dX3_init_15 : decode cX3_init 15 = .ok (.putfield 15, 3) := by decide +kernel
theorem dX3_init_18 : decode cX3_init 18 = .ok (.aload_n 0, 1) := by decide +kernel
theorem dX3_init_19 : decode cX3_init 19 = .ok (.iconst 0, 1) := by decide +kernel
theorem dX3_init_20 : decode cX3_init 20 = .ok (.putfield 19, 3) := by decide +kernel
theorem dX3_init_23 : decode cX3_init 23 = .ok (.iconst 0, 1) := by decide +kernel
theorem dX3_init_24 : decode cX3_init 24 = .ok (.istore_n 1, 1) := by decide +kernel
theorem dX3_init_25 : decode cX3_init 25 = .ok (.iload_n 1, 1) := by decide +kernel
theorem dX3_init_26 : decode cX3_init 26 = .ok (.bipush 40, 2) := by decide +kernel
theorem dX3_init_28 : decode cX3_init 28 = .ok (.if_icmp .ge 22, 3) := by decide +kernel
theorem dX3_init_31 : decode cX3_init 31 = .ok (.aload_n 0, 1) := by decide +kernel
theorem dX3_init_32 : decode cX3_init 32 = .ok (.getfield 11, 3) := by decide +kernel
theorem dX3_init_35 : decode cX3_init 35 = .ok (.iload_n 1, 1) := by decide +kernel
theorem dX3_init_36 : decode cX3_init 36 = .ok (.new 9, 3) := by decide +kernel
theorem dX3_init_39 : decode cX3_init 39 = .ok (.dup, 1) := by decide +kernel
theorem dX3_init_40 : decode cX3_init 40 = .ok (.invokespecial 22, 3) := by decide +kernel
theorem dX3_init_43 : decode cX3_init 43 = .ok (.aastore, 1) := by decide +kernel
theorem dX3_init_44 : decode cX3_init 44 = .ok (.iinc 1 1, 3) := by decide +kernel
theorem dX3_init_47 : decode cX3_init 47 = .ok (.goto (-22), 3) := by decide +kernel
theorem dX3_init_50 : decode cX3_init 50 = .ok (.return_, 1) := by decide +kernel
set_option maxHeartbeats 4000000 in
set_option maxRecDepth 100000 in
theorem k_X3_init_0 (l : Launch) (D : va_G) (cy : Nat → ClassId) {L : List Nat} {τ : Nat → Ro} {E : Ec} (hI : Inv TB cy L τ E) {a0 : Nat} (ha0 : a0 ∈ L) (ta0 : τ a0 = (204, 0)) (he0 : E a0 = .inr (2, [.null, .int 0, .int 0])) (hab0 : Ab L τ [(4, 0), (29, 0), (229, 0), (201, 1)]) : CtG l yX3_init wsX3_init { frames := 2, cells := 361, slots := 2480, locals := 40 } D cy L τ E [.ref a0] a0 [(1, 1), (27, 1), (26, 1), (25, 1), (24, 1), (23, 1), (22, 1), (21, 1), (20, 1), (29, 0)] 361 2480 (fun L' τ' E' => τ' a0 = (4, 0)) := by
  intro sz
  refine staG (cc := cX3_init) (maxL := 2) hI (by decide) rfl (Nat.le_of_ble_eq_true rfl) (fun p e s m args below meth c ls hsz hnm Z hO S0 hl => ?_)
  have hx := Z.1.1
  have hb := Z.1.2.1
  have hts := Z.1.2.2.2.2
  have hnm : meth.name = "<init>" := hnm
  have G0 : Gr a0 [] L τ E L τ E := Gr.refl
  have hl : lv_has ls 2 [(0, .ref a0)] := hl
  generalize hQ : MQ below _ args s _ _ _ = QQ
  refine lv_aload_n hx hb dX3_init_0 rfl (lv_at hl 0 rfl) ?_
  refine tr_obj Z.1 hl.1 (hts _ (List.mem_of_getElem? (i := 1) rfl)) (hts _ (List.mem_of_getElem? (i := 2) rfl)) (hts _ (List.mem_of_getElem? (i := 3) rfl)) dX3_init_1 (Nat.le_of_ble_eq_true rfl) (Nat.le_of_ble_eq_true rfl) ?_
  refine lv_aload_n hx hb dX3_init_4 rfl (lv_at hl 0 rfl) ?_
  obtain ⟨v1, ev1, tv1⟩ : ∃ v : Int32, (Int8.ofInt (40)).toInt32 = v ∧ v.toInt = 40 := ⟨_, rfl, by decide +kernel⟩
  refine lv_bipush hx hb dX3_init_5 ev1 ?_
  refine tr_newq Z.1 Z.2.2.2.1 Z.2.2.2.2.2 S0 (hts _ (List.mem_of_getElem? (i := 4) rfl)) hO.2.1 4 rfl 40 (by omega) (Nat.le_of_ble_eq_true rfl) (229, 0) rfl rfl (fun j n t h => nomatch h) (fun _ => Ab.ne hab0 (by decide)) (Nat.le_of_ble_eq_true rfl) (Nat.le_of_ble_eq_true rfl) dX3_init_7 (fun Lq2 Tq2 Eq2 q2 Hq2 Sq2 Pq2 zq2 => ?_)
  have Wq2 : Gr a0 [(229, 0)] L τ E Lq2 Tq2 Eq2 := Gr.push G0 Pq2
  have f3 : q2 ∉ L := Gr.fresh G0 Pq2
  have Aq2 : Ab Lq2 Tq2 [(4, 0), (29, 0), (201, 1)] := Ab.push hab0 Pq2 (by decide) (by decide)
  have eq2 : Eq2 a0 = .inr (2, [.null, .int 0, .int 0]) := (Pq2.2.2.1 a0 ha0).trans he0
  have hm4 : a0 ∈ Lq2 := Pq2.1 _ ha0
  have tm4 : Tq2 a0 = (204, 0) := (Pq2.2.1 _ ha0).trans ta0
  refine tr_putR Z.1 Z.2.2.2.1 Sq2 hm4 tm4 rfl rfl rfl eq2 rfl (fun _ h => List.mem_cons_of_mem _ (List.mem_append_left _ (List.mem_append_right _ h))) tyX3_ok nmX3 0 (by decide) (Nat.le_of_ble_eq_true rfl) (Or.inr ⟨hnm, rfl, rfl⟩) (hts _ (List.mem_of_getElem? (i := 5) rfl)) dX3_init_10 rfl rfl (fun Eu5 Hu5 ku5 Su5 ou5 gu5 => ?_)
  have hu5 : Eu5 a0 = .inr (2, [.ref q2, .int 0, .int 0]) := gu5
  have Wu5 : Gr a0 [(229, 0)] L τ E Lq2 Tq2 Eu5 := Gr.wr Wq2 ou5 (Or.inl rfl)
  have yu5 : Eu5 q2 = .inl (cy 4, 40, .inr (.inr (.inr (.inr (fun _ => none))))) := (ou5 q2 (ne_ro Pq2.2.2.2.2.1 tm4 (by decide))).trans zq2
  refine lv_aload_n hx hb dX3_init_13 rfl (lv_at hl 0 rfl) ?_
  obtain ⟨v6, ev6, tv6⟩ : ∃ v : Int32, Int32.ofInt (0) = v ∧ v.toInt = 0 := ⟨_, rfl, by decide +kernel⟩
  refine lv_iconst hx hb dX3_init_14 ev6 ?_
  refine tr_putR Z.1 Z.2.2.2.1 Su5 hm4 tm4 rfl rfl rfl hu5 rfl (fun _ h => List.mem_cons_of_mem _ (List.mem_append_left _ (List.mem_append_right _ h))) tyX3_ok nmX3 1 (by decide) (Nat.le_of_ble_eq_true rfl) (Or.inl rfl) (hts _ (List.mem_of_getElem? (i := 6) rfl)) dX3_init_15 rfl rfl (fun Eu7 Hu7 ku7 Su7 ou7 gu7 => ?_)
  have hu7 : Eu7 a0 = .inr (2, [.ref q2, .int v6, .int 0]) := gu7
  have Wu7 : Gr a0 [(229, 0)] L τ E Lq2 Tq2 Eu7 := Gr.wr Wu5 ou7 (Or.inl rfl)
  have yu7 : Eu7 q2 = .inl (cy 4, 40, .inr (.inr (.inr (.inr (fun _ => none))))) := (ou7 q2 (ne_ro Pq2.2.2.2.2.1 tm4 (by decide))).trans yu5
  refine lv_aload_n hx hb dX3_init_18 rfl (lv_at hl 0 rfl) ?_
  obtain ⟨v8, ev8, tv8⟩ : ∃ v : Int32, Int32.ofInt (0) = v ∧ v.toInt = 0 := ⟨_, rfl, by decide +kernel⟩
  refine lv_iconst hx hb dX3_init_19 ev8 ?_
  refine tr_putR Z.1 Z.2.2.2.1 Su7 hm4 tm4 rfl rfl rfl hu7 rfl (fun _ h => List.mem_cons_of_mem _ (List.mem_append_left _ (List.mem_append_right _ h))) tyX3_ok nmX3 2 (by decide) (Nat.le_of_ble_eq_true rfl) (Or.inl rfl) (hts _ (List.mem_of_getElem? (i := 7) rfl)) dX3_init_20 rfl rfl (fun Eu9 Hu9 ku9 Su9 ou9 gu9 => ?_)
  have hu9 : Eu9 a0 = .inr (2, [.ref q2, .int v6, .int v8]) := gu9
  have Wu9 : Gr a0 [(229, 0)] L τ E Lq2 Tq2 Eu9 := Gr.wr Wu7 ou9 (Or.inl rfl)
  have yu9 : Eu9 q2 = .inl (cy 4, 40, .inr (.inr (.inr (.inr (fun _ => none))))) := (ou9 q2 (ne_ro Pq2.2.2.2.2.1 tm4 (by decide))).trans yu7
  obtain ⟨v10, ev10, tv10⟩ : ∃ v : Int32, Int32.ofInt (0) = v ∧ v.toInt = 0 := ⟨_, rfl, by decide +kernel⟩
  refine lv_iconst hx hb dX3_init_23 ev10 ?_
  refine lv_istore_n (lv' := [(1, .int v10), (0, .ref a0)]) hx hb dX3_init_24 rfl hl (by decide) rfl (fun l1 hl1 => ?_)
  have J : ∀ (n : Nat) (x : Int32) (L_ : List Nat) (T_ : Nat → Ro) (E_ : Ec) (H_ : Heap) (k_ : List Loc) (l_ : Array Slot) (f_ : Nat → Option Nat), NowG D cy (va_A (va_pl L E) sz) s L_ T_ E_ H_ k_ → a0 ∈ L_ → T_ a0 = (204, 0) → E_ a0 = .inr (2, [.ref q2, .int v6, .int v8]) → q2 ∈ L_ → T_ q2 = (229, 0) → E_ q2 = .inl (cy 4, 40, .inr (.inr (.inr (.inr f_)))) → (∀ i : Nat, (i : Int) < x.toInt → ∃ y : Nat, f_ i = some y ∧ y ∈ L_ ∧ T_ y = (1, 1)) → Ab L_ T_ [(4, 0), (29, 0), (201, 1)] → Gr a0 [(1, 1), (27, 1), (26, 1), (25, 1), (24, 1), (23, 1), (22, 1), (21, 1), (20, 1), (229, 0)] L τ E L_ T_ E_ → 0 ≤ x.toInt → x.toInt ≤ 40 → (40 - x.toInt).toNat < n → lv_has l_ 2 [(0, .ref a0), (1, .int x)] → W p l e { frames := 2, cells := 361, slots := 2480, locals := 40 } s m args below meth c H_ k_ (1 + 9 * x.toInt.toNat) (40 + 61 * x.toInt.toNat) QQ (F0 m 25 l_ []) := by
    intro n
    induction n with
    | zero => intro x L_ T_ E_ H_ k_ l_ f_ S_ h1 h2 h3 h4 h5 h6 h7 h8 h9 x0 x1 hm hl; exact absurd hm (Nat.not_lt_zero _)
    | succ n ih =>
      intro x L_ T_ E_ H_ k_ l_ f_ S_ h1 h2 h3 h4 h5 h6 h7 h8 h9 x0 x1 hm hl
      refine lv_iload_n hx hb dX3_init_25 rfl (lv_at hl 1 rfl) ?_
      obtain ⟨v40, ev40, tv40⟩ : ∃ v : Int32, (Int8.ofInt (40)).toInt32 = v ∧ v.toInt = 40 := ⟨_, rfl, by decide +kernel⟩
      refine lv_bipush hx hb dX3_init_26 ev40 ?_
      refine lv_icmp_ge (tgt := 50) hx hb dX3_init_28 (by decide) (fun c1 => ?_) (fun c1 => ?_)
      · skip
        have tc1 := nu_le c1
        have hx40 : x.toInt.toNat = 40 := by omega
        rw [hx40]
        have IQ : Inv TB cy L_ (upT T_ q2 (29, 0)) E_ := inv_role S_.2 h5 (by decide) (fun _ => Ab.ne h8 (by decide)) (fun _ _ h => nomatch h) (fun _ _ _ h => nomatch h) (fun j n t h => by
            have h : some ((4 : Nat), (40 : Nat), (fun (_ : Nat) => ((1, 1, 1) : Ft))) = some (j, n, t) := h
            cases h
            refine ⟨f_, h6, fun i hi => ?_⟩
            obtain ⟨y, e1, e2, e3⟩ := h7 i (by omega)
            exact ⟨y, by rw [e1]; rfl, e2, (upT_ne (ne_ro e3 h5 (by decide))).trans e3⟩)
        have ta : upT T_ q2 (29, 0) a0 = (204, 0) := (upT_ne (ne_ro h2 h5 (by decide))).trans h2
        have IR : Inv TB cy L_ (upT (upT T_ q2 (29, 0)) a0 (4, 0)) E_ := inv_role IQ ta (by decide) (fun _ b hb e => by
            by_cases z : b = q2
            · rw [z, upT_self] at e; exact absurd e (by decide)
            · rw [upT_ne z] at e; exact Ab.ne h8 (by decide) b hb e) (fun ci ts h => by
            have h : some ((2 : Nat), ([(1, 29, 0), (0, 0, 39), (0, 0, 40)] : List Ft)) = some (ci, ts) := h
            cases h
            exact okO_of h3 ⟨⟨q2, rfl, h4, (upT_ne (ne_ro (upT_self T_ q2 (29, 0)) ta (by decide))).trans (upT_self _ _ _)⟩, ⟨v6, rfl, by dsimp only; omega, by dsimp only; omega⟩, ⟨v8, rfl, by dsimp only; omega, by dsimp only; omega⟩, trivial⟩) (fun _ _ _ h => nomatch h) (fun _ _ _ h => nomatch h)
        have GF : Gr a0 [(1, 1), (27, 1), (26, 1), (25, 1), (24, 1), (23, 1), (22, 1), (21, 1), (20, 1), (29, 0)] L τ E L_ (upT (upT T_ q2 (29, 0)) a0 (4, 0)) E_ := Gr.role ⟨h9.1, fun a ha hn => (upT_ne (fun (z : a = q2) => f3 (z ▸ ha))).trans (h9.2.1 a ha hn), h9.2.2.1, fun b hb => by
            by_cases z : b = q2
            · exact Or.inr (by rw [z, upT_self]; decide)
            · rw [upT_ne z]
              rcases h9.2.2.2 b hb with y | y
              · exact Or.inl y
              · by_cases u : T_ b = (229, 0)
                · exact absurd (S_.2.2.2.2 b hb q2 h4 (u.trans h5.symm) (by rw [u]; rfl)) z
                · exact Or.inr (inW_swap y u)⟩ ha0
        rw [← hQ]
        exact en_vG Z ⟨S_.1, IR⟩ (post := fun _ T9 _ => T9 a0 = (4, 0)) GF (upT_self _ _ _) dX3_init_50
      · skip
        have tc1 := nu_nle c1
        refine lv_aload_n hx hb dX3_init_31 rfl (lv_at hl 0 rfl) ?_
        refine tr_getR Z.1 Z.2.2.2.1 S_ h1 h3 rfl (fun _ h => List.mem_cons_of_mem _ (List.mem_append_left _ (List.mem_append_right _ h))) 0 (by decide) rfl (hts _ (List.mem_of_getElem? (i := 5) rfl)) dX3_init_32 ?_
        refine lv_iload_n hx hb dX3_init_35 rfl (lv_at hl 1 rfl) ?_
        refine tr_new Z.1 Z.2.2.2.1 Z.2.2.2.2.2 S_ (fun _ h => List.mem_cons_of_mem _ (List.mem_append_right _ h)) tyX4 tyX4_ok (hts _ (List.mem_of_getElem? (i := 4) rfl)) (hts _ (List.mem_of_getElem? (i := 8) rfl)) (hts _ (List.mem_of_getElem? (i := 9) rfl)) (ci := 3) rfl (fs := [.int 0, .int 0, .int 0, .int 0, .int 0, .int 0, .int 0, .int 0, .null, .null, .null, .null, .null, .null, .null, .null]) (by decide +kernel) (201, 1) rfl rfl rfl (Ab.ne h8 (by decide)) (by show 1 + 9 * x.toInt.toNat + 1 ≤ 361; omega) (by show 40 + 61 * x.toInt.toNat + 16 ≤ 2480; omega) dX3_init_36 (fun L1 T1 E1 y H1 S1 P1 g1 => ?_)
        refine lv_dup hx hb dX3_init_39 rfl ?_
        have G1 : Gr a0 ((201, 1) :: [(1, 1), (27, 1), (26, 1), (25, 1), (24, 1), (23, 1), (22, 1), (21, 1), (20, 1), (229, 0)]) L τ E L1 T1 E1 := Gr.push h9 P1
        have A1 : Ab L1 T1 [(4, 0), (29, 0)] := Ab.push h8 P1 (by decide) (by decide)
        refine tc_I Z.1 Z.2.2.2.1 Z.2.2.2.2.1 Z.2.2.2.2.2 hO S1 (k_X4_init_1 l D cy S1.2 P1.2.2.2.1 P1.2.2.2.2.1 g1 (A1.sub (by decide))) (cwI 0 hts gX3_init_X4_init rfl rfl rfl (hts _ (List.mem_of_getElem? (i := 9) rfl)) (hts _ (List.mem_of_getElem? (i := 10) rfl)) (hts _ (List.mem_of_getElem? (i := 11) rfl)) rfl (by decide +kernel) ⟨Nat.le_of_ble_eq_true rfl, Nat.le_of_ble_eq_true rfl⟩) rfl hl.1 rfl (Nat.le_of_ble_eq_true rfl) dX3_init_40 ⟨by show 1 + 9 * x.toInt.toNat + 1 + 8 ≤ 361; omega, by show 40 + 61 * x.toInt.toNat + 16 + 45 ≤ 2480; omega⟩ (fun L2 T2 E2 H2 k2 S2 G2 p2 => ?_)
        have f1 : y ∉ L := Gr.fresh h9 P1
        have G3 : Gr a0 [(1, 1), (27, 1), (26, 1), (25, 1), (24, 1), (23, 1), (22, 1), (21, 1), (20, 1), (229, 0)] L τ E L2 T2 E2 := Gr.mono (Gr.call G1 G2 f1 p2 (Gr.one h9 P1)) (by decide)
        have A2 : Ab L2 T2 [(4, 0), (29, 0), (201, 1)] := fun b hb => by
            by_cases z : b = y
            · rw [z, p2]; rfl
            · rcases G2.2.2.2 b hb with u | u
              · rw [G2.2.1 b u z]
                rcases P1.2.2.2.2.2.2 b u with w | w
                · rw [P1.2.1 b w]; exact h8 b w
                · exact absurd w z
              · exact inW_apart (by decide) u
        have na : a0 ≠ y := fun z => P1.2.2.2.2.2.1 (z ▸ h1)
        have nq : q2 ≠ y := fun z => P1.2.2.2.2.2.1 (z ▸ h4)
        have m1 : a0 ∈ L2 := G2.1 _ (P1.1 _ h1)
        have m2 : T2 a0 = (204, 0) := (G2.2.1 _ (P1.1 _ h1) na).trans ((P1.2.1 _ h1).trans h2)
        have m3 : E2 a0 = .inr (2, [.ref q2, .int v6, .int v8]) := (G2.2.2.1 _ (P1.1 _ h1) na).trans ((P1.2.2.1 _ h1).trans h3)
        have m4 : q2 ∈ L2 := G2.1 _ (P1.1 _ h4)
        have m5 : T2 q2 = (229, 0) := (G2.2.1 _ (P1.1 _ h4) nq).trans ((P1.2.1 _ h4).trans h5)
        have m6 : E2 q2 = .inl (cy 4, 40, .inr (.inr (.inr (.inr f_)))) := (G2.2.2.1 _ (P1.1 _ h4) nq).trans ((P1.2.2.1 _ h4).trans h6)
        have m7 : y ∈ L2 := G2.1 _ P1.2.2.2.1
        have tx : (x.toNatClampNeg : Int) = x.toInt := by show ((x.toInt.toNat : Nat) : Int) = _; omega
        refine tr_aastR Z.1 Z.2.2.2.1 S2 m4 m5 rfl rfl rfl m6 (ci := 3) rfl 4 rfl m7 (by rw [p2]; exact ⟨_, rfl⟩) (by omega) (by omega) dX3_init_43 (fun E3 H3 k3 S3 o3 g3 => ?_)
        obtain ⟨z, ez⟩ : ∃ z : Int32, x + Int32.ofInt (1) = z := ⟨_, rfl⟩
        have tz : z.toInt = x.toInt + 1 := by rw [← ez]; exact (fb_addI (by rw [show (Int32.ofInt (1)).toInt = 1 from by decide +kernel]; omega) (by rw [show (Int32.ofInt (1)).toInt = 1 from by decide +kernel]; omega)).trans (by rw [show (Int32.ofInt (1)).toInt = 1 from by decide +kernel])
        refine lv_iinc (v := z) (lv' := [(1, .int z), (0, .ref a0)]) hx hb dX3_init_44 hl (k := 1) rfl ez (by decide) rfl (fun l3 hl3 => ?_)
        refine lv_goto (tgt := 25) hx hb dX3_init_47 (by decide) ?_
        rw [show 1 + 9 * x.toInt.toNat + 1 + 8 = 1 + 9 * z.toInt.toNat from by omega, show 40 + 61 * x.toInt.toNat + 16 + 45 = 40 + 61 * z.toInt.toNat from by omega]
        refine ih z L2 T2 E3 H3 k3 l3 (va_up f_ x.toNatClampNeg (some y)) S3 m1 m2 ((o3 a0 (ne_ro m2 m5 (by decide))).trans m3) m4 m5 g3 (fun i hi => ?_) A2 (Gr.wr G3 o3 (Or.inr f3)) (by omega) (by omega) (by omega) (lv_sub hl3 [1, 0] rfl)
        by_cases c : i = x.toNatClampNeg
        · exact ⟨y, by rw [c, va_up_self], m7, p2⟩
        · obtain ⟨u, e1, e2, e3⟩ := h7 i (by omega)
          have nu : u ≠ y := fun w => P1.2.2.2.2.2.1 (w ▸ e2)
          exact ⟨u, by rw [va_up_ne _ _ c]; exact e1, G2.1 _ (P1.1 _ e2), (G2.2.1 _ (P1.1 _ e2) nu).trans ((P1.2.1 _ e2).trans e3)⟩
  have hz0 : v10.toInt.toNat = 0 := by omega
  have K := J _ v10 Lq2 Tq2 Eu9 Hu9 ku9 l1 (fun _ => none) Su9 hm4 tm4 hu9 Pq2.2.2.2.1 Pq2.2.2.2.2.1 yu9 (fun i hi => absurd hi (by omega)) (Aq2.sub (by decide)) (Gr.mono Wu9 (by decide)) (by omega) (by omega) (Nat.lt_succ_self _) (lv_sub hl1 [1, 0] rfl)
  rw [hz0] at K
  exact K

