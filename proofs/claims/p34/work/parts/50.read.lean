set_option maxRecDepth 20000 in
theorem ggX5_read_X5_readQuant : GoodIn wsX5_read wsX5_readQuant := goodIn_r _ [20, 21, 7, 22, 23, 24, 19, 25, 6, 26, 27, 28, 29, 30, 31, 32, 33, 34, 35, 36, 37, 38, 39, 40, 41, 42, 43, 44, 45, 46, 47, 48, 49, 50, 51, 52, 53, 54, 55, 56, 57, 58, 59, 60, 61, 62, 63, 64, 65, 66, 67, 68, 69, 70, 71, 72, 73, 74, 75, 76, 77, 78, 79, 80, 81, 82, 83, 84, 85, 86, 87, 8, 9, 173, 174, 175, 176, 177, 178, 179, 180, 181, 182, 183, 184, 185, 186] (by decide +kernel) (by decide +kernel)
set_option maxRecDepth 20000 in
theorem gX5_read_X5_readQuant : GoodIn wsX5_read (wsV RX5 63 RX5 yX5_readQuant wsX5_readQuant) := goodIn_app (goodIn_of _ (by decide +kernel)) ggX5_read_X5_readQuant
set_option maxRecDepth 20000 in
theorem ggX5_read_X5_readComparison : GoodIn wsX5_read wsX5_readComparison := goodIn_r _ [91, 12, 8, 11, 92, 93, 94, 95, 96, 19, 97, 7, 98, 99, 100, 101, 22, 23, 24, 25, 6, 26, 102, 103, 104, 105, 106, 107, 108, 109, 110, 111, 112, 2, 3, 4, 5, 113, 114, 115, 116, 117, 27, 28, 29, 30, 31, 32, 33, 34, 35, 36, 37, 38, 39, 40, 41, 42, 43, 44, 45, 46, 47, 48, 49, 50, 51, 52, 53, 54, 55, 56, 57, 58, 59, 60, 61, 62, 63, 64, 65, 66, 67, 68, 69, 70, 71, 72, 73, 74, 75, 76, 77, 78, 79, 80, 81, 82, 83, 84, 85, 86, 87, 9, 118, 119, 120, 121, 122, 123, 124, 125, 126, 127, 128, 10, 129, 130, 131, 132, 173, 174, 175, 176, 177, 178, 179, 180, 181, 182, 183, 184, 185, 186] (by decide +kernel) (by decide +kernel)
set_option maxRecDepth 20000 in
theorem gX5_read_X5_readComparison : GoodIn wsX5_read (wsV RX5 66 RX5 yX5_readComparison wsX5_readComparison) := goodIn_app (goodIn_of _ (by decide +kernel)) ggX5_read_X5_readComparison
set_option maxRecDepth 20000 in
theorem ggX5_read_X5_readAnd : GoodIn wsX5_read wsX5_readAnd := goodIn_r _ [136, 7, 11, 22, 23, 24, 19, 25, 6, 26, 102, 103, 104, 105, 27, 28, 29, 30, 31, 32, 33, 34, 35, 36, 37, 38, 39, 40, 41, 42, 43, 44, 45, 46, 47, 48, 49, 50, 51, 52, 53, 54, 55, 56, 57, 58, 59, 60, 61, 62, 63, 64, 65, 66, 67, 68, 69, 70, 71, 72, 73, 74, 75, 76, 77, 78, 79, 80, 81, 82, 83, 84, 85, 86, 87, 8, 9, 173, 174, 175, 176, 177, 178, 179, 180, 181, 182, 183, 184, 185, 186] (by decide +kernel) (by decide +kernel)
set_option maxRecDepth 20000 in
theorem gX5_read_X5_readAnd : GoodIn wsX5_read (wsV RX5 69 RX5 yX5_readAnd wsX5_readAnd) := goodIn_app (goodIn_of _ (by decide +kernel)) ggX5_read_X5_readAnd
set_option maxRecDepth 20000 in
theorem ggX5_read_X1_init : GoodIn wsX5_read wsX1_init := goodIn_r _ [139, 140, 141, 142, 143, 144, 145, 146, 147, 148, 149, 150, 151, 152, 153, 154, 155, 156, 157, 158, 159, 160, 161, 162, 163, 164, 165, 166, 167, 168, 3, 4, 5, 169, 170, 171, 172, 173, 174, 175, 176, 177, 178, 179, 180, 181, 182, 183, 184, 185, 186, 187, 188, 189, 190, 191, 192] (by decide +kernel) (by decide +kernel)
set_option maxRecDepth 20000 in
theorem gX5_read_X1_init : GoodIn wsX5_read (wsX1_init) := ggX5_read_X1_init
theorem dX5_read_0 : decode cX5_read 0 = .ok (.aload_n 0, 1) := by decide +kernel
theorem dX5_read_1 : decode cX5_read 1 = .ok (.iload_n 1, 1) := by decide +kernel
theorem dX5_read_2 : decode cX5_read 2 = .ok (.aload_n 0, 1) := by decide +kernel
theorem dX5_read_3 : decode cX5_read 3 = .ok (.getfield 15, 3) := by decide +kernel
theorem dX5_read_6 : decode cX5_read 6 = .ok (.invokestatic 57, 3) := by decide +kernel
theorem dX5_read_9 : decode cX5_read 9 = .ok (.putfield 19, 3) := by decide +kernel
theorem dX5_read_12 : decode cX5_read 12 = .ok (.aload_n 0, 1) := by decide +kernel
theorem dX5_read_13 : decode cX5_read 13 = .ok (.iconst 0, 1) := by decide +kernel
theorem dX5_read_14 : decode cX5_read 14 = .ok (.putfield 15, 3) := by decide +kernel
theorem dX5_read_17 : decode cX5_read 17 = .ok (.aload_n 0, 1) := by decide +kernel
theorem dX5_read_18 : decode cX5_read 18 = .ok (.iconst 0, 1) := by decide +kernel
theorem dX5_read_19 : decode cX5_read 19 = .ok (.putfield 22, 3) := by decide +kernel
theorem dX5_read_22 : decode cX5_read 22 = .ok (.aload_n 0, 1) := by decide +kernel
theorem dX5_read_23 : decode cX5_read 23 = .ok (.iconst 0, 1) := by decide +kernel
theorem dX5_read_24 : decode cX5_read 24 = .ok (.putfield 25, 3) := by decide +kernel
theorem dX5_read_27 : decode cX5_read 27 = .ok (.aload_n 0, 1) := by decide +kernel
theorem dX5_read_28 : decode cX5_read 28 = .ok (.iconst (-1), 1) := by decide +kernel
theorem dX5_read_29 : decode cX5_read 29 = .ok (.putfield 28, 3) := by decide +kernel
theorem dX5_read_32 : decode cX5_read 32 = .ok (.aload_n 0, 1) := by decide +kernel
theorem dX5_read_33 : decode cX5_read 33 = .ok (.iconst 0, 1) := by decide +kernel
theorem dX5_read_34 : decode cX5_read 34 = .ok (.putfield 35, 3) := by decide +kernel
theorem dX5_read_37 : decode cX5_read 37 = .ok (.aload_n 0, 1) := by decide +kernel
theorem dX5_read_38 : decode cX5_read 38 = .ok (.iconst 0, 1) := by decide +kernel
theorem dX5_read_39 : decode cX5_read 39 = .ok (.putfield 38, 3) := by decide +kernel
theorem dX5_read_42 : decode cX5_read 42 = .ok (.aload_n 0, 1) := by decide +kernel
theorem dX5_read_43 : decode cX5_read 43 = .ok (.iconst 0, 1) := by decide +kernel
theorem dX5_read_44 : decode cX5_read 44 = .ok (.putfield 41, 3) := by decide +kernel
theorem dX5_read_47 : decode cX5_read 47 = .ok (.aload_n 0, 1) := by decide +kernel
theorem dX5_read_48 : decode cX5_read 48 = .ok (.invokevirtual 63, 3) := by decide +kernel
theorem dX5_read_51 : decode cX5_read 51 = .ok (.aload_n 0, 1) := by decide +kernel
theorem dX5_read_52 : decode cX5_read 52 = .ok (.getfield 25, 3) := by decide +kernel
theorem dX5_read_55 : decode cX5_read 55 = .ok (.ifCond .ne 7, 3) := by decide +kernel
theorem dX5_read_58 : decode cX5_read 58 = .ok (.iconst 1, 1) := by decide +kernel
theorem dX5_read_59 : decode cX5_read 59 = .ok (.goto 4, 3) := by decide +kernel
theorem dX5_read_62 : decode cX5_read 62 = .ok (.iconst 0, 1) := by decide +kernel
theorem dX5_read_63 : decode cX5_read 63 = .ok (.istore_n 2, 1) := by decide +kernel
theorem dX5_read_64 : decode cX5_read 64 = .ok (.iconst 0, 1) := by decide +kernel
theorem dX5_read_65 : decode cX5_read 65 = .ok (.istore_n 3, 1) := by decide +kernel
theorem dX5_read_66 : decode cX5_read 66 = .ok (.iload_n 3, 1) := by decide +kernel
theorem dX5_read_67 : decode cX5_read 67 = .ok (.iconst 4, 1) := by decide +kernel
theorem dX5_read_68 : decode cX5_read 68 = .ok (.if_icmp .ge 37, 3) := by decide +kernel
theorem dX5_read_71 : decode cX5_read 71 = .ok (.iload_n 2, 1) := by decide +kernel
theorem dX5_read_72 : decode cX5_read 72 = .ok (.ifCond .eq 33, 3) := by decide +kernel
theorem dX5_read_75 : decode cX5_read 75 = .ok (.aload_n 0, 1) := by decide +kernel
theorem dX5_read_76 : decode cX5_read 76 = .ok (.invokevirtual 66, 3) := by decide +kernel
theorem dX5_read_79 : decode cX5_read 79 = .ok (.aload_n 0, 1) := by decide +kernel
theorem dX5_read_80 : decode cX5_read 80 = .ok (.getfield 25, 3) := by decide +kernel
theorem dX5_read_83 : decode cX5_read 83 = .ok (.ifCond .ne 14, 3) := by decide +kernel
theorem dX5_read_86 : decode cX5_read 86 = .ok (.aload_n 0, 1) := by decide +kernel
theorem dX5_read_87 : decode cX5_read 87 = .ok (.invokevirtual 69, 3) := by decide +kernel
theorem dX5_read_90 : decode cX5_read 90 = .ok (.ifCond .eq 7, 3) := by decide +kernel
theorem dX5_read_93 : decode cX5_read 93 = .ok (.iconst 1, 1) := by decide +kernel
theorem dX5_read_94 : decode cX5_read 94 = .ok (.goto 4, 3) := by decide +kernel
theorem dX5_read_97 : decode cX5_read 97 = .ok (.iconst 0, 1) := by decide +kernel
theorem dX5_read_98 : decode cX5_read 98 = .ok (.istore_n 2, 1) := by decide +kernel
theorem dX5_read_99 : decode cX5_read 99 = .ok (.iinc 3 1, 3) := by decide +kernel
theorem dX5_read_102 : decode cX5_read 102 = .ok (.goto (-36), 3) := by decide +kernel
theorem dX5_read_105 : decode cX5_read 105 = .ok (.aload_n 0, 1) := by decide +kernel
theorem dX5_read_106 : decode cX5_read 106 = .ok (.getfield 25, 3) := by decide +kernel
theorem dX5_read_109 : decode cX5_read 109 = .ok (.ifCond .ne 14, 3) := by decide +kernel
theorem dX5_read_112 : decode cX5_read 112 = .ok (.new 73, 3) := by decide +kernel
theorem dX5_read_115 : decode cX5_read 115 = .ok (.dup, 1) := by decide +kernel
theorem dX5_read_116 : decode cX5_read 116 = .ok (.aload_n 0, 1) := by decide +kernel
theorem dX5_read_117 : decode cX5_read 117 = .ok (.invokespecial 75, 3) := by decide +kernel
theorem dX5_read_120 : decode cX5_read 120 = .ok (.goto 4, 3) := by decide +kernel
theorem dX5_read_123 : decode cX5_read 123 = .ok (.aconst_null, 1) := by decide +kernel
theorem dX5_read_124 : decode cX5_read 124 = .ok (.areturn, 1) := by decide +kernel
set_option maxHeartbeats 4000000 in
set_option maxRecDepth 100000 in
theorem k_X5_read (l : Launch) (D : va_G) (cy : Nat → ClassId) {L : List Nat} {τ : Nat → Ro} {E : Ec} (hI : Inv TB cy L τ E) {G : Sg} {a0 : Nat} (ha0 : a0 ∈ L) (ta0 : τ a0 = (7, 0)) (a1 : Int32) (la1 : 0 ≤ a1.toInt) {qe : Nat} (hqe : qe ∈ L) (tqe : τ qe = (33, 0)) {qs : Nat} (hqs : qs ∈ L) (tqs : τ qs = (36, 0)) (hraw : ∀ b ∈ L, τ b ≠ (210, 0)) : CtL1q G l yX5_read wsX5_read { frames := 10, cells := 5, slots := 262, locals := 225 } D cy L τ E [.ref a0, .int a1] a0 (inW [(7, 0), (34, 0), (35, 0), (36, 0), (33, 0)]) 5 262 (fun v L' τ' E' => τ' a0 = (7, 0) ∧ (fi E' a0 1).toInt = 0 ∧ ∀ q : Nat, v = some q → q ∈ L' ∧ (τ' q).1 = 10) := by
  intro sz
  refine staL (cc := cX5_read) (maxL := 4) hI (by decide) rfl (Nat.le_of_ble_eq_true rfl) (fun p e s m args below meth c ls hsz hnm Z SZ S0 hl => ?_)
  have hx := Z.1.1
  have hb := Z.1.2.1
  have hts := Z.1.2.2.2.2
  have F0_ : Fr L τ (inW [(7, 0), (34, 0), (35, 0), (36, 0), (33, 0)]) E E := Fr.refl
  have hl : lv_has ls 4 [(0, .ref a0), (1, .int a1)] := hl
  generalize hQ : MQ below _ args s 5 262 _ = QQ
  have J105 : ∀  (E_105 : Ec) (H_105 : Heap) (k_105 : List Loc) (l_105 : Array Slot), Now D TB cy (va_A (va_pl L E) sz) s L τ E_105 H_105 k_105 → Fr L τ (inW [(7, 0), (34, 0), (35, 0), (36, 0), (33, 0)]) E E_105 → (RdW E_105 a0 qe qs) → (∀ k : Nat, k ∉ ([1, 2, 3, 4, 5, 6, 7, 8, 9] : List Nat) → fi E_105 a0 k = fi E a0 k) → (0 ≤ (fi E_105 a0 1).toInt ∧ (fi E_105 a0 1).toInt ≤ 0) → lv_has l_105 4 [(0, .ref a0)] → W p l e { frames := 10, cells := 5, slots := 262, locals := 225 } s m args below meth c H_105 k_105 0 0 QQ (F0 m 105 l_105 []) := by
    intro  E_105 H_105 k_105 l_105 S_105 F_105 z1 z2 z3 hl_105
    refine lv_aload_n hx hb dX5_read_105 rfl (lv_at hl_105 0 rfl) ?_
    refine tr_geti Z.1 Z.2.2.2.1 S_105.1 S_105.2 ha0 ta0 rfl rfl (fun _ h => List.mem_cons_of_mem _ (List.mem_append_left _ (List.mem_append_right _ h))) 4 (by decide) rfl (hts _ (List.mem_of_getElem? (i := 8) rfl)) dX5_read_106 (fun v4 ev4 lv4 uv4 => ?_)
    refine lv_if_ne (tgt := 123) hx hb dX5_read_109 (by decide) (fun c5 => ?_) (fun c5 => ?_)
    · skip
      have tc5 := nu_ne c5
      have uc5 : (0 : Int32).toInt = 0 := rfl
      refine lv_null hx hb dX5_read_123 ?_
      rw [← hQ]
      refine W.widen (k := 5) (n := 262) (Nat.le_of_ble_eq_true rfl) (Nat.le_of_ble_eq_true rfl) ?_
      exact en_qL (v := none) (post := fun v L' τ' E' => τ' a0 = (7, 0) ∧ (fi E' a0 1).toInt = 0 ∧ ∀ q : Nat, v = some q → q ∈ L' ∧ (τ' q).1 = 10) Z (Or.inl ⟨_, rfl⟩) S_105 (GL.fr F_105) ⟨ta0, (by omega), fun _ h => nomatch h⟩ dX5_read_124
    · skip
      have tc5 := nu_eq c5
      have uc5 : (0 : Int32).toInt = 0 := rfl
      have hR_ : RdW E_105 a0 qe qs := z1
      have fed_ : (fi E_105 a0 1).toInt = 0 := (by omega)
      refine tr_new Z.1 Z.2.2.2.1 Z.2.2.2.2.2 S_105 (fun _ h => List.mem_cons_of_mem _ (List.mem_append_right _ h)) tyX1 tyX1_ok (hts _ (List.mem_of_getElem? (i := 13) rfl)) (hts _ (List.mem_of_getElem? (i := 14) rfl)) (hts _ (List.mem_of_getElem? (i := 15) rfl)) (ci := 1) rfl (fs := [.int 0, .int 0, .null, .null, .null, .null]) (by decide +kernel) (210, 0) rfl rfl rfl hraw (Nat.le_of_ble_eq_true rfl) (Nat.le_of_ble_eq_true rfl) dX5_read_112 (fun L2 T2 E2 q2 H2 S2 P2 he2 => ?_)
      refine lv_dup hx hb dX5_read_115 rfl ?_
      refine lv_aload_n hx hb dX5_read_116 rfl (lv_at hl_105 0 rfl) ?_
      have fi2 : ∀ k : Nat, fi E2 a0 k = fi E_105 a0 k := fun k => by simp only [fi, fv, P2.2.2.1 a0 ha0]
      have hR2 : RdW E2 a0 qe qs := RdW.same hR_ (P2.2.2.1 _ hqe) (P2.2.2.1 _ hqs) (fi2 7) (fi2 8) (fi2 9)
      refine tc_LI Z.1 Z.2.2.2.1 Z.2.2.2.2.1 Z.2.2.2.2.2 SZ S2 (k_X1_init l D cy S2.2 P2.2.2.2.1 P2.2.2.2.2.1 he2 (P2.1 _ ha0) ((P2.2.1 _ ha0).trans ta0) (P2.1 _ hqe) ((P2.2.1 _ hqe).trans tqe) (P2.1 _ hqs) ((P2.2.1 _ hqs).trans tqs) hR2) (cwI 1 hts gX5_read_X1_init rfl rfl rfl (hts _ (List.mem_of_getElem? (i := 15) rfl)) (hts _ (List.mem_of_getElem? (i := 137) rfl)) (hts _ (List.mem_of_getElem? (i := 138) rfl)) rfl (by decide +kernel) ⟨Nat.le_of_ble_eq_true rfl, Nat.le_of_ble_eq_true rfl⟩) rfl hl_105.1 rfl (Nat.le_of_ble_eq_true rfl) dX5_read_117 ⟨Nat.le_of_ble_eq_true rfl, Nat.le_of_ble_eq_true rfl⟩ (fun L3 T3 E3 H3 k3 S3 G3 p3 => ?_)
      refine lv_goto (tgt := 124) hx hb dX5_read_120 (by decide) ?_
      rw [← hQ]
      obtain ⟨g1, g2, g3⟩ := GL.law (x := a0) F_105 P2 G3 p3
      exact en_qL (v := some q2) (post := fun v L' τ' E' => τ' a0 = (7, 0) ∧ (fi E' a0 1).toInt = 0 ∧ ∀ q : Nat, v = some q → q ∈ L' ∧ (τ' q).1 = 10) Z (Or.inl ⟨_, rfl⟩) S3 g1 ⟨(g2 a0 ha0).trans ta0, by rw [show fi E3 a0 1 = fi E_105 a0 1 from by simp only [fi, fv, g3 a0 ha0]]; exact fed_, fun q h => by cases h; exact ⟨G3.1 _ P2.2.2.2.1, p3⟩⟩ dX5_read_124
  have J66 : ∀ (n : Nat) (x2_66 : Int32) (x3_66 : Int32) (E_66 : Ec) (H_66 : Heap) (k_66 : List Loc) (l_66 : Array Slot), Now D TB cy (va_A (va_pl L E) sz) s L τ E_66 H_66 k_66 → Fr L τ (inW [(7, 0), (34, 0), (35, 0), (36, 0), (33, 0)]) E E_66 → (0 ≤ x2_66.toInt) → (x2_66.toInt ≤ 1) → (0 ≤ x3_66.toInt) → (x3_66.toInt ≤ 4) → (RdW E_66 a0 qe qs) → (∀ k : Nat, k ∉ ([1, 2, 3, 4, 5, 6, 7, 8, 9] : List Nat) → fi E_66 a0 k = fi E a0 k) → (0 ≤ (fi E_66 a0 1).toInt ∧ (fi E_66 a0 1).toInt ≤ 0) → (4 - x3_66.toInt).toNat < n → lv_has l_66 4 [(0, .ref a0), (2, .int x2_66), (3, .int x3_66)] → W p l e { frames := 10, cells := 5, slots := 262, locals := 225 } s m args below meth c H_66 k_66 0 0 QQ (F0 m 66 l_66 []) := by
    intro n
    induction n with
    | zero => intro x2_66 x3_66 E_66 H_66 k_66 l_66 S_66 F_66 z6 z7 z8 z9 z10 z11 z12 hm hl_66; exact absurd hm (Nat.not_lt_zero _)
    | succ n ih =>
      intro x2_66 x3_66 E_66 H_66 k_66 l_66 S_66 F_66 z6 z7 z8 z9 z10 z11 z12 hm hl_66
      have ih_66 := ih
      have J98 : ∀ (y0_98 : Int32) (E_98 : Ec) (H_98 : Heap) (k_98 : List Loc) (l_98 : Array Slot), Now D TB cy (va_A (va_pl L E) sz) s L τ E_98 H_98 k_98 → Fr L τ (inW [(7, 0), (34, 0), (35, 0), (36, 0), (33, 0)]) E E_98 → (0 ≤ x3_66.toInt) → (x3_66.toInt ≤ 3) → (0 ≤ y0_98.toInt) → (y0_98.toInt ≤ 1) → (RdW E_98 a0 qe qs) → (∀ k : Nat, k ∉ ([1, 2, 3, 4, 5, 6, 7, 8, 9] : List Nat) → fi E_98 a0 k = fi E a0 k) → (0 ≤ (fi E_98 a0 1).toInt ∧ (fi E_98 a0 1).toInt ≤ 0) → lv_has l_98 4 [(0, .ref a0), (3, .int x3_66)] → W p l e { frames := 10, cells := 5, slots := 262, locals := 225 } s m args below meth c H_98 k_98 0 0 QQ (F0 m 98 l_98 [.int y0_98]) := by
        intro y0_98 E_98 H_98 k_98 l_98 S_98 F_98 z13 z14 z15 z16 z17 z18 z19 hl_98
        refine lv_istore_n (lv' := [(2, .int y0_98), (0, .ref a0), (3, .int x3_66)]) hx hb dX5_read_98 rfl hl_98 (by decide) rfl (fun l20 hl21 => ?_)
        obtain ⟨v22, ev22⟩ : ∃ y : Int32, x3_66 + Int32.ofInt (1) = y := ⟨_, rfl⟩
        have tv22 : v22.toInt = x3_66.toInt + (1) := by rw [← ev22]; exact (fb_addI (by rw [show (Int32.ofInt (1)).toInt = 1 from by decide +kernel]; omega) (by rw [show (Int32.ofInt (1)).toInt = 1 from by decide +kernel]; omega)).trans (by rw [show (Int32.ofInt (1)).toInt = 1 from by decide +kernel])
        refine lv_iinc (v := v22) (lv' := [(3, .int v22), (2, .int y0_98), (0, .ref a0)]) hx hb dX5_read_99 hl21 (k := 2) rfl ev22 (by decide) rfl (fun l23 hl24 => ?_)
        refine lv_goto (tgt := 66) hx hb dX5_read_102 (by decide) ?_
        exact ih_66 y0_98 v22 E_98 H_98 k_98 l23 S_98 F_98 (by omega) (by omega) (by omega) (by omega) z17 (fun k hk => (z18 k hk)) (by omega) (by omega) (lv_sub hl24 [2, 1, 0] rfl)
      have J97 : ∀  (E_97 : Ec) (H_97 : Heap) (k_97 : List Loc) (l_97 : Array Slot), Now D TB cy (va_A (va_pl L E) sz) s L τ E_97 H_97 k_97 → Fr L τ (inW [(7, 0), (34, 0), (35, 0), (36, 0), (33, 0)]) E E_97 → (0 ≤ x3_66.toInt) → (x3_66.toInt ≤ 3) → (RdW E_97 a0 qe qs) → (∀ k : Nat, k ∉ ([1, 2, 3, 4, 5, 6, 7, 8, 9] : List Nat) → fi E_97 a0 k = fi E a0 k) → (0 ≤ (fi E_97 a0 1).toInt ∧ (fi E_97 a0 1).toInt ≤ 0) → lv_has l_97 4 [(0, .ref a0), (3, .int x3_66)] → W p l e { frames := 10, cells := 5, slots := 262, locals := 225 } s m args below meth c H_97 k_97 0 0 QQ (F0 m 97 l_97 []) := by
        intro  E_97 H_97 k_97 l_97 S_97 F_97 z25 z26 z27 z28 z29 hl_97
        obtain ⟨v30, ev30, tv30⟩ : ∃ v : Int32, Int32.ofInt (0) = v ∧ v.toInt = 0 := ⟨_, rfl, by decide +kernel⟩
        refine lv_iconst hx hb dX5_read_97 ev30 ?_
        exact J98 v30 E_97 H_97 k_97 l_97 S_97 F_97 (by omega) (by omega) (by omega) (by omega) z27 (fun k hk => (z28 k hk)) (by omega) (lv_sub hl_97 [0, 1] rfl)
      refine lv_iload_n hx hb dX5_read_66 rfl (lv_at hl_66 2 rfl) ?_
      obtain ⟨v31, ev31, tv31⟩ : ∃ v : Int32, Int32.ofInt (4) = v ∧ v.toInt = 4 := ⟨_, rfl, by decide +kernel⟩
      refine lv_iconst hx hb dX5_read_67 ev31 ?_
      refine lv_icmp_ge (tgt := 105) hx hb dX5_read_68 (by decide) (fun c32 => ?_) (fun c32 => ?_)
      · skip
        have tc32 := nu_le c32
        exact J105 E_66 H_66 k_66 l_66 S_66 F_66 z10 (fun k hk => (z11 k hk)) (by omega) (lv_sub hl_66 [0] rfl)
      · skip
        have tc32 := nu_nle c32
        refine lv_iload_n hx hb dX5_read_71 rfl (lv_at hl_66 1 rfl) ?_
        refine lv_if_eq (tgt := 105) hx hb dX5_read_72 (by decide) (fun c33 => ?_) (fun c33 => ?_)
        · skip
          have tc33 := nu_eq c33
          have uc33 : (0 : Int32).toInt = 0 := rfl
          exact J105 E_66 H_66 k_66 l_66 S_66 F_66 z10 (fun k hk => (z11 k hk)) (by omega) (lv_sub hl_66 [0] rfl)
        · skip
          have tc33 := nu_ne c33
          have uc33 : (0 : Int32).toInt = 0 := rfl
          refine lv_aload_n hx hb dX5_read_75 rfl (lv_at hl_66 0 rfl) ?_
          refine tc1_vv Z.1 Z.2.2.2.1 Z.2.2.2.2.1 Z.2.2.2.2.2 SZ S_66.1 S_66.2 ha0 ta0 rfl rfl (k_X5_readComparison l D cy S_66.2 ha0 ta0 hqe tqe hqs tqs z10) (cwV 0 hts gX5_read_X5_readComparison rfl rfl rfl (by decide +kernel) ⟨Nat.le_of_ble_eq_true rfl, Nat.le_of_ble_eq_true rfl⟩) rfl hl_66.1 rfl (Nat.le_of_ble_eq_true rfl) dX5_read_76 ⟨Nat.zero_le _, Nat.zero_le _⟩ (fun E34 H35 k36 W34 I34 G34 p34 => ?_)
          obtain ⟨p34_0, p34_1⟩ := p34
          have S34 : Now D TB cy (va_A (va_pl L E) sz) s L τ E34 H35 k36 := ⟨W34, I34⟩
          have F34 : Fr L τ (inW [(7, 0), (34, 0), (35, 0), (36, 0), (33, 0)]) E E34 := F_66.trans (G34.mono (inW_mono (by decide)))
          refine lv_aload_n hx hb dX5_read_79 rfl (lv_at hl_66 0 rfl) ?_
          refine tr_geti Z.1 Z.2.2.2.1 S34.1 S34.2 ha0 ta0 rfl rfl (fun _ h => List.mem_cons_of_mem _ (List.mem_append_left _ (List.mem_append_right _ h))) 4 (by decide) rfl (hts _ (List.mem_of_getElem? (i := 8) rfl)) dX5_read_80 (fun v38 ev38 lv38 uv38 => ?_)
          refine lv_if_ne (tgt := 97) hx hb dX5_read_83 (by decide) (fun c39 => ?_) (fun c39 => ?_)
          · skip
            have tc39 := nu_ne c39
            have uc39 : (0 : Int32).toInt = 0 := rfl
            exact J97 E34 H35 k36 l_66 S34 F34 (by omega) (by omega) p34_1 (fun k hk => ((p34_0 k (fw_sub (by decide) hk)).trans (z11 k hk))) (by rw [((p34_0 1 (by decide)).trans rfl)]; omega) (lv_sub hl_66 [0, 2] rfl)
          · skip
            have tc39 := nu_eq c39
            have uc39 : (0 : Int32).toInt = 0 := rfl
            refine lv_aload_n hx hb dX5_read_86 rfl (lv_at hl_66 0 rfl) ?_
            refine tc1_vi Z.1 Z.2.2.2.1 Z.2.2.2.2.1 Z.2.2.2.2.2 SZ S34.1 S34.2 ha0 ta0 rfl rfl (k_X5_readAnd l D cy S34.2 ha0 ta0) (cwV 0 hts gX5_read_X5_readAnd rfl rfl rfl (by decide +kernel) ⟨Nat.le_of_ble_eq_true rfl, Nat.le_of_ble_eq_true rfl⟩) rfl hl_66.1 rfl (Nat.le_of_ble_eq_true rfl) dX5_read_87 ⟨Nat.zero_le _, Nat.zero_le _⟩ (fun v43 E40 H41 k42 W40 I40 G40 p40 => ?_)
            obtain ⟨p40_0, p40_1, p40_2⟩ := p40
            have S40 : Now D TB cy (va_A (va_pl L E) sz) s L τ E40 H41 k42 := ⟨W40, I40⟩
            have F40 : Fr L τ (inW [(7, 0), (34, 0), (35, 0), (36, 0), (33, 0)]) E E40 := F34.trans (G40.mono (inW_mono (by decide)))
            refine lv_if_eq (tgt := 97) hx hb dX5_read_90 (by decide) (fun c44 => ?_) (fun c44 => ?_)
            · skip
              have tc44 := nu_eq c44
              have uc44 : (0 : Int32).toInt = 0 := rfl
              exact J97 E40 H41 k42 l_66 S40 F40 (by omega) (by omega) (RdW.same p34_1 (G40 qe hqe (by rw [tqe]; rfl)) (G40 qs hqs (by rw [tqs]; rfl)) (p40_2 7 (by decide)) (p40_2 8 (by decide)) (p40_2 9 (by decide))) (fun k hk => ((p40_2 k (fw_sub (by decide) hk)).trans ((p34_0 k (fw_sub (by decide) hk)).trans (z11 k hk)))) (by rw [((p40_2 1 (by decide)).trans ((p34_0 1 (by decide)).trans rfl))]; omega) (lv_sub hl_66 [0, 2] rfl)
            · skip
              have tc44 := nu_ne c44
              have uc44 : (0 : Int32).toInt = 0 := rfl
              obtain ⟨v45, ev45, tv45⟩ : ∃ v : Int32, Int32.ofInt (1) = v ∧ v.toInt = 1 := ⟨_, rfl, by decide +kernel⟩
              refine lv_iconst hx hb dX5_read_93 ev45 ?_
              refine lv_goto (tgt := 98) hx hb dX5_read_94 (by decide) ?_
              exact J98 v45 E40 H41 k42 l_66 S40 F40 (by omega) (by omega) (by omega) (by omega) (RdW.same p34_1 (G40 qe hqe (by rw [tqe]; rfl)) (G40 qs hqs (by rw [tqs]; rfl)) (p40_2 7 (by decide)) (p40_2 8 (by decide)) (p40_2 9 (by decide))) (fun k hk => ((p40_2 k (fw_sub (by decide) hk)).trans ((p34_0 k (fw_sub (by decide) hk)).trans (z11 k hk)))) (by rw [((p40_2 1 (by decide)).trans ((p34_0 1 (by decide)).trans rfl))]; omega) (lv_sub hl_66 [0, 2] rfl)
  have J63 : ∀ (y0_63 : Int32) (E_63 : Ec) (H_63 : Heap) (k_63 : List Loc) (l_63 : Array Slot), Now D TB cy (va_A (va_pl L E) sz) s L τ E_63 H_63 k_63 → Fr L τ (inW [(7, 0), (34, 0), (35, 0), (36, 0), (33, 0)]) E E_63 → (0 ≤ y0_63.toInt) → (y0_63.toInt ≤ 1) → (RdW E_63 a0 qe qs) → (∀ k : Nat, k ∉ ([1, 2, 3, 4, 5, 6, 7, 8, 9] : List Nat) → fi E_63 a0 k = fi E a0 k) → (0 ≤ (fi E_63 a0 1).toInt ∧ (fi E_63 a0 1).toInt ≤ 0) → lv_has l_63 4 [(0, .ref a0)] → W p l e { frames := 10, cells := 5, slots := 262, locals := 225 } s m args below meth c H_63 k_63 0 0 QQ (F0 m 63 l_63 [.int y0_63]) := by
    intro y0_63 E_63 H_63 k_63 l_63 S_63 F_63 z46 z47 z48 z49 z50 hl_63
    refine lv_istore_n (lv' := [(2, .int y0_63), (0, .ref a0)]) hx hb dX5_read_63 rfl hl_63 (by decide) rfl (fun l51 hl52 => ?_)
    obtain ⟨v53, ev53, tv53⟩ : ∃ v : Int32, Int32.ofInt (0) = v ∧ v.toInt = 0 := ⟨_, rfl, by decide +kernel⟩
    refine lv_iconst hx hb dX5_read_64 ev53 ?_
    refine lv_istore_n (lv' := [(3, .int v53), (2, .int y0_63), (0, .ref a0)]) hx hb dX5_read_65 rfl hl52 (by decide) rfl (fun l54 hl55 => ?_)
    exact J66 _ y0_63 v53 E_63 H_63 k_63 l54 S_63 F_63 (by omega) (by omega) (by omega) (by omega) z48 (fun k hk => (z49 k hk)) (by omega) (Nat.lt_succ_self _) (lv_sub hl55 [2, 1, 0] rfl)
  refine lv_aload_n hx hb dX5_read_0 rfl (lv_at hl 0 rfl) ?_
  refine lv_iload_n hx hb dX5_read_1 rfl (lv_at hl 1 rfl) ?_
  refine lv_aload_n hx hb dX5_read_2 rfl (lv_at hl 0 rfl) ?_
  refine tr_geti Z.1 Z.2.2.2.1 S0.1 S0.2 ha0 ta0 rfl rfl (fun _ h => List.mem_cons_of_mem _ (List.mem_append_left _ (List.mem_append_right _ h))) 1 (by decide) rfl (hts _ (List.mem_of_getElem? (i := 1) rfl)) dX5_read_3 (fun v56 ev56 lv56 uv56 => ?_)
  refine va_mmin hx hb (Z.1.2.2.1.trans hl.1.symm) Z.1.2.2.2.1 (hts _ (List.mem_of_getElem? (i := 2) rfl)) (hts _ (List.mem_of_getElem? (i := 3) rfl)) (hts _ (List.mem_of_getElem? (i := 4) rfl)) (hts _ (List.mem_of_getElem? (i := 5) rfl)) (Nat.le_of_ble_eq_true rfl) (Nat.le_of_ble_eq_true rfl) (Nat.zero_le _) (Nat.zero_le _) dX5_read_6 ?_
  refine lv_topi (fun v57 ev57 => ?_)
  have tv57 := nu_min ev57
  refine tr_puti Z.1 Z.2.2.2.1 S0.1 S0.2 ha0 ta0 rfl rfl (fun _ h => List.mem_cons_of_mem _ (List.mem_append_left _ (List.mem_append_right _ h))) tyX5_ok nmX5 2 (by decide) rfl rfl rfl (hts _ (List.mem_of_getElem? (i := 6) rfl)) dX5_read_9 (by omega) (by omega) (fun E58 H59 k60 W58 I58 P58 => ?_)
  have S58 : Now D TB cy (va_A (va_pl L E) sz) s L τ E58 H59 k60 := ⟨W58, I58⟩
  have F58 : Fr L τ (inW [(7, 0), (34, 0), (35, 0), (36, 0), (33, 0)]) E E58 := Fr.put F0_ P58 ta0 rfl
  refine lv_aload_n hx hb dX5_read_12 rfl (lv_at hl 0 rfl) ?_
  obtain ⟨v61, ev61, tv61⟩ : ∃ v : Int32, Int32.ofInt (0) = v ∧ v.toInt = 0 := ⟨_, rfl, by decide +kernel⟩
  refine lv_iconst hx hb dX5_read_13 ev61 ?_
  refine tr_puti Z.1 Z.2.2.2.1 S58.1 S58.2 ha0 ta0 rfl rfl (fun _ h => List.mem_cons_of_mem _ (List.mem_append_left _ (List.mem_append_right _ h))) tyX5_ok nmX5 1 (by decide) rfl rfl rfl (hts _ (List.mem_of_getElem? (i := 1) rfl)) dX5_read_14 (by omega) (by omega) (fun E62 H63 k64 W62 I62 P62 => ?_)
  have S62 : Now D TB cy (va_A (va_pl L E) sz) s L τ E62 H63 k64 := ⟨W62, I62⟩
  have F62 : Fr L τ (inW [(7, 0), (34, 0), (35, 0), (36, 0), (33, 0)]) E E62 := Fr.put F58 P62 ta0 rfl
  refine lv_aload_n hx hb dX5_read_17 rfl (lv_at hl 0 rfl) ?_
  obtain ⟨v65, ev65, tv65⟩ : ∃ v : Int32, Int32.ofInt (0) = v ∧ v.toInt = 0 := ⟨_, rfl, by decide +kernel⟩
  refine lv_iconst hx hb dX5_read_18 ev65 ?_
  refine tr_puti Z.1 Z.2.2.2.1 S62.1 S62.2 ha0 ta0 rfl rfl (fun _ h => List.mem_cons_of_mem _ (List.mem_append_left _ (List.mem_append_right _ h))) tyX5_ok nmX5 3 (by decide) rfl rfl rfl (hts _ (List.mem_of_getElem? (i := 7) rfl)) dX5_read_19 (by omega) (by omega) (fun E66 H67 k68 W66 I66 P66 => ?_)
  have S66 : Now D TB cy (va_A (va_pl L E) sz) s L τ E66 H67 k68 := ⟨W66, I66⟩
  have F66 : Fr L τ (inW [(7, 0), (34, 0), (35, 0), (36, 0), (33, 0)]) E E66 := Fr.put F62 P66 ta0 rfl
  refine lv_aload_n hx hb dX5_read_22 rfl (lv_at hl 0 rfl) ?_
  obtain ⟨v69, ev69, tv69⟩ : ∃ v : Int32, Int32.ofInt (0) = v ∧ v.toInt = 0 := ⟨_, rfl, by decide +kernel⟩
  refine lv_iconst hx hb dX5_read_23 ev69 ?_
  refine tr_puti Z.1 Z.2.2.2.1 S66.1 S66.2 ha0 ta0 rfl rfl (fun _ h => List.mem_cons_of_mem _ (List.mem_append_left _ (List.mem_append_right _ h))) tyX5_ok nmX5 4 (by decide) rfl rfl rfl (hts _ (List.mem_of_getElem? (i := 8) rfl)) dX5_read_24 (by have := fb_rng v69; omega) (by have := fb_rng v69; omega) (fun E70 H71 k72 W70 I70 P70 => ?_)
  have S70 : Now D TB cy (va_A (va_pl L E) sz) s L τ E70 H71 k72 := ⟨W70, I70⟩
  have F70 : Fr L τ (inW [(7, 0), (34, 0), (35, 0), (36, 0), (33, 0)]) E E70 := Fr.put F66 P70 ta0 rfl
  refine lv_aload_n hx hb dX5_read_27 rfl (lv_at hl 0 rfl) ?_
  obtain ⟨v73, ev73, tv73⟩ : ∃ v : Int32, Int32.ofInt (-1) = v ∧ v.toInt = -1 := ⟨_, rfl, by decide +kernel⟩
  refine lv_iconst hx hb dX5_read_28 ev73 ?_
  refine tr_puti Z.1 Z.2.2.2.1 S70.1 S70.2 ha0 ta0 rfl rfl (fun _ h => List.mem_cons_of_mem _ (List.mem_append_left _ (List.mem_append_right _ h))) tyX5_ok nmX5 5 (by decide) rfl rfl rfl (hts _ (List.mem_of_getElem? (i := 9) rfl)) dX5_read_29 (by have := fb_rng v73; omega) (by have := fb_rng v73; omega) (fun E74 H75 k76 W74 I74 P74 => ?_)
  have S74 : Now D TB cy (va_A (va_pl L E) sz) s L τ E74 H75 k76 := ⟨W74, I74⟩
  have F74 : Fr L τ (inW [(7, 0), (34, 0), (35, 0), (36, 0), (33, 0)]) E E74 := Fr.put F70 P74 ta0 rfl
  refine lv_aload_n hx hb dX5_read_32 rfl (lv_at hl 0 rfl) ?_
  obtain ⟨v77, ev77, tv77⟩ : ∃ v : Int32, Int32.ofInt (0) = v ∧ v.toInt = 0 := ⟨_, rfl, by decide +kernel⟩
  refine lv_iconst hx hb dX5_read_33 ev77 ?_
  refine tr_putz Z.1 Z.2.2.2.1 S74.1 S74.2 ha0 ta0 rfl rfl (fun _ h => List.mem_cons_of_mem _ (List.mem_append_left _ (List.mem_append_right _ h))) tyX5_ok nmX5 7 (by decide) rfl rfl rfl (hts _ (List.mem_of_getElem? (i := 10) rfl)) dX5_read_34 (by omega) (by omega) (fun E78 H79 k80 W78 I78 P78 => ?_)
  have S78 : Now D TB cy (va_A (va_pl L E) sz) s L τ E78 H79 k80 := ⟨W78, I78⟩
  have F78 : Fr L τ (inW [(7, 0), (34, 0), (35, 0), (36, 0), (33, 0)]) E E78 := Fr.put F74 P78 ta0 rfl
  refine lv_aload_n hx hb dX5_read_37 rfl (lv_at hl 0 rfl) ?_
  obtain ⟨v81, ev81, tv81⟩ : ∃ v : Int32, Int32.ofInt (0) = v ∧ v.toInt = 0 := ⟨_, rfl, by decide +kernel⟩
  refine lv_iconst hx hb dX5_read_38 ev81 ?_
  refine tr_puti Z.1 Z.2.2.2.1 S78.1 S78.2 ha0 ta0 rfl rfl (fun _ h => List.mem_cons_of_mem _ (List.mem_append_left _ (List.mem_append_right _ h))) tyX5_ok nmX5 8 (by decide) rfl rfl rfl (hts _ (List.mem_of_getElem? (i := 11) rfl)) dX5_read_39 (by omega) (by omega) (fun E82 H83 k84 W82 I82 P82 => ?_)
  have S82 : Now D TB cy (va_A (va_pl L E) sz) s L τ E82 H83 k84 := ⟨W82, I82⟩
  have F82 : Fr L τ (inW [(7, 0), (34, 0), (35, 0), (36, 0), (33, 0)]) E E82 := Fr.put F78 P82 ta0 rfl
  refine lv_aload_n hx hb dX5_read_42 rfl (lv_at hl 0 rfl) ?_
  obtain ⟨v85, ev85, tv85⟩ : ∃ v : Int32, Int32.ofInt (0) = v ∧ v.toInt = 0 := ⟨_, rfl, by decide +kernel⟩
  refine lv_iconst hx hb dX5_read_43 ev85 ?_
  refine tr_puti Z.1 Z.2.2.2.1 S82.1 S82.2 ha0 ta0 rfl rfl (fun _ h => List.mem_cons_of_mem _ (List.mem_append_left _ (List.mem_append_right _ h))) tyX5_ok nmX5 9 (by decide) rfl rfl rfl (hts _ (List.mem_of_getElem? (i := 12) rfl)) dX5_read_44 (by omega) (by omega) (fun E86 H87 k88 W86 I86 P86 => ?_)
  have S86 : Now D TB cy (va_A (va_pl L E) sz) s L τ E86 H87 k88 := ⟨W86, I86⟩
  have F86 : Fr L τ (inW [(7, 0), (34, 0), (35, 0), (36, 0), (33, 0)]) E E86 := Fr.put F82 P86 ta0 rfl
  have k8_ : (fi E86 a0 8).toInt = 0 := (by rw [((fi_put P86 (Or.inr (by decide))).trans (fi_at P82))]; omega)
  have k9_ : (fi E86 a0 9).toInt = 0 := (by rw [(fi_at P86)]; omega)
  have hR47 : RdW E86 a0 qe qs := ⟨fun j hj => absurd hj (by omega), fun i hi => absurd hi (by omega)⟩
  refine lv_aload_n hx hb dX5_read_47 rfl (lv_at hl 0 rfl) ?_
  refine tc1_vv Z.1 Z.2.2.2.1 Z.2.2.2.2.1 Z.2.2.2.2.2 SZ S86.1 S86.2 ha0 ta0 rfl rfl (k_X5_readQuant l D cy S86.2 ha0 ta0) (cwV 0 hts gX5_read_X5_readQuant rfl rfl rfl (by decide +kernel) ⟨Nat.le_of_ble_eq_true rfl, Nat.le_of_ble_eq_true rfl⟩) rfl hl.1 rfl (Nat.le_of_ble_eq_true rfl) dX5_read_48 ⟨Nat.zero_le _, Nat.zero_le _⟩ (fun E89 H90 k91 W89 I89 G89 p89 => ?_)
  have p89_0 := p89
  have S89 : Now D TB cy (va_A (va_pl L E) sz) s L τ E89 H90 k91 := ⟨W89, I89⟩
  have F89 : Fr L τ (inW [(7, 0), (34, 0), (35, 0), (36, 0), (33, 0)]) E E89 := F86.trans (G89.mono (inW_mono (by decide)))
  refine lv_aload_n hx hb dX5_read_51 rfl (lv_at hl 0 rfl) ?_
  refine tr_geti Z.1 Z.2.2.2.1 S89.1 S89.2 ha0 ta0 rfl rfl (fun _ h => List.mem_cons_of_mem _ (List.mem_append_left _ (List.mem_append_right _ h))) 4 (by decide) rfl (hts _ (List.mem_of_getElem? (i := 8) rfl)) dX5_read_52 (fun v93 ev93 lv93 uv93 => ?_)
  refine lv_if_ne (tgt := 62) hx hb dX5_read_55 (by decide) (fun c94 => ?_) (fun c94 => ?_)
  · skip
    have tc94 := nu_ne c94
    have uc94 : (0 : Int32).toInt = 0 := rfl
    obtain ⟨v95, ev95, tv95⟩ : ∃ v : Int32, Int32.ofInt (0) = v ∧ v.toInt = 0 := ⟨_, rfl, by decide +kernel⟩
    refine lv_iconst hx hb dX5_read_62 ev95 ?_
    exact J63 v95 E89 H90 k91 ls S89 F89 (by have := fb_rng a1; omega) (by have := fb_rng a1; omega) (RdW.same hR47 (G89 qe hqe (by rw [tqe]; rfl)) (G89 qs hqs (by rw [tqs]; rfl)) (p89_0 7 (by decide)) (p89_0 8 (by decide)) (p89_0 9 (by decide))) (fun k hk => ((p89_0 k (fw_sub (by decide) hk)).trans ((fi_put P86 (Or.inr (fw_ne (by decide) hk))).trans ((fi_put P82 (Or.inr (fw_ne (by decide) hk))).trans ((fi_put P78 (Or.inr (fw_ne (by decide) hk))).trans ((fi_put P74 (Or.inr (fw_ne (by decide) hk))).trans ((fi_put P70 (Or.inr (fw_ne (by decide) hk))).trans ((fi_put P66 (Or.inr (fw_ne (by decide) hk))).trans ((fi_put P62 (Or.inr (fw_ne (by decide) hk))).trans ((fi_put P58 (Or.inr (fw_ne (by decide) hk))).trans ((fun k hk => rfl) k hk))))))))))) (by rw [((p89_0 1 (by decide)).trans ((fi_put P86 (Or.inr (by decide))).trans ((fi_put P82 (Or.inr (by decide))).trans ((fi_put P78 (Or.inr (by decide))).trans ((fi_put P74 (Or.inr (by decide))).trans ((fi_put P70 (Or.inr (by decide))).trans ((fi_put P66 (Or.inr (by decide))).trans (fi_at P62))))))))]; have := fb_rng a1; omega) (lv_sub hl [0] rfl)
  · skip
    have tc94 := nu_eq c94
    have uc94 : (0 : Int32).toInt = 0 := rfl
    obtain ⟨v96, ev96, tv96⟩ : ∃ v : Int32, Int32.ofInt (1) = v ∧ v.toInt = 1 := ⟨_, rfl, by decide +kernel⟩
    refine lv_iconst hx hb dX5_read_58 ev96 ?_
    refine lv_goto (tgt := 63) hx hb dX5_read_59 (by decide) ?_
    exact J63 v96 E89 H90 k91 ls S89 F89 (by have := fb_rng a1; omega) (by have := fb_rng a1; omega) (RdW.same hR47 (G89 qe hqe (by rw [tqe]; rfl)) (G89 qs hqs (by rw [tqs]; rfl)) (p89_0 7 (by decide)) (p89_0 8 (by decide)) (p89_0 9 (by decide))) (fun k hk => ((p89_0 k (fw_sub (by decide) hk)).trans ((fi_put P86 (Or.inr (fw_ne (by decide) hk))).trans ((fi_put P82 (Or.inr (fw_ne (by decide) hk))).trans ((fi_put P78 (Or.inr (fw_ne (by decide) hk))).trans ((fi_put P74 (Or.inr (fw_ne (by decide) hk))).trans ((fi_put P70 (Or.inr (fw_ne (by decide) hk))).trans ((fi_put P66 (Or.inr (fw_ne (by decide) hk))).trans ((fi_put P62 (Or.inr (fw_ne (by decide) hk))).trans ((fi_put P58 (Or.inr (fw_ne (by decide) hk))).trans ((fun k hk => rfl) k hk))))))))))) (by rw [((p89_0 1 (by decide)).trans ((fi_put P86 (Or.inr (by decide))).trans ((fi_put P82 (Or.inr (by decide))).trans ((fi_put P78 (Or.inr (by decide))).trans ((fi_put P74 (Or.inr (by decide))).trans ((fi_put P70 (Or.inr (by decide))).trans ((fi_put P66 (Or.inr (by decide))).trans (fi_at P62))))))))]; have := fb_rng a1; omega) (lv_sub hl [0] rfl)

