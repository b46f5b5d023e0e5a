set_option maxRecDepth 20000 in
theorem ggX5_keepPart_J0_length_8abf5 : GoodIn wsX5_keepPart wsJ0_length_8abf5 := goodIn_r _ [13, 14, 15, 16, 17, 12, 18, 19, 20] (by decide +kernel) (by decide +kernel)
set_option maxRecDepth 20000 in
theorem gX5_keepPart_J0_length_8abf5 : GoodIn wsX5_keepPart (wsV RX5 137 RJ0 yJ0_length_8abf5 wsJ0_length_8abf5) := goodIn_app (goodIn_of _ (by decide +kernel)) ggX5_keepPart_J0_length_8abf5
set_option maxRecDepth 20000 in
theorem ggX5_keepPart_X5_skipBlanks : GoodIn wsX5_keepPart wsX5_skipBlanks := goodIn_r _ [25, 5, 26, 27, 32, 33, 34, 35, 36, 37, 38, 39, 40, 41, 42, 43, 44, 45] (by decide +kernel) (by decide +kernel)
set_option maxRecDepth 20000 in
theorem gX5_keepPart_X5_skipBlanks : GoodIn wsX5_keepPart (wsV RX5 78 RX5 yX5_skipBlanks wsX5_skipBlanks) := goodIn_app (goodIn_of _ (by decide +kernel)) ggX5_keepPart_X5_skipBlanks
set_option maxRecDepth 20000 in
theorem ggX5_keepPart_X5_peek : GoodIn wsX5_keepPart wsX5_peek := goodIn_r _ [31, 5, 26, 27, 32, 33, 34, 35, 36, 37, 38, 39, 40, 41, 42, 43, 44, 45] (by decide +kernel) (by decide +kernel)
set_option maxRecDepth 20000 in
theorem gX5_keepPart_X5_peek : GoodIn wsX5_keepPart (wsV RX5 96 RX5 yX5_peek wsX5_peek) := goodIn_app (goodIn_of _ (by decide +kernel)) ggX5_keepPart_X5_peek
theorem dX5_keepPart_0 : decode cX5_keepPart 0 = .ok (.aload_n 0, 1) := by decide +kernel
theorem dX5_keepPart_1 : decode cX5_keepPart 1 = .ok (.getfield 48, 3) := by decide +kernel
theorem dX5_keepPart_4 : decode cX5_keepPart 4 = .ok (.aload_n 0, 1) := by decide +kernel
theorem dX5_keepPart_5 : decode cX5_keepPart 5 = .ok (.getfield 41, 3) := by decide +kernel
theorem dX5_keepPart_8 : decode cX5_keepPart 8 = .ok (.iload_n 1, 1) := by decide +kernel
theorem dX5_keepPart_9 : decode cX5_keepPart 9 = .ok (.iastore, 1) := by decide +kernel
theorem dX5_keepPart_10 : decode cX5_keepPart 10 = .ok (.aload_n 0, 1) := by decide +kernel
theorem dX5_keepPart_11 : decode cX5_keepPart 11 = .ok (.getfield 51, 3) := by decide +kernel
theorem dX5_keepPart_14 : decode cX5_keepPart 14 = .ok (.aload_n 0, 1) := by decide +kernel
theorem dX5_keepPart_15 : decode cX5_keepPart 15 = .ok (.getfield 41, 3) := by decide +kernel
theorem dX5_keepPart_18 : decode cX5_keepPart 18 = .ok (.bipush 12, 2) := by decide +kernel
theorem dX5_keepPart_20 : decode cX5_keepPart 20 = .ok (.iastore, 1) := by decide +kernel
theorem dX5_keepPart_21 : decode cX5_keepPart 21 = .ok (.aload_n 0, 1) := by decide +kernel
theorem dX5_keepPart_22 : decode cX5_keepPart 22 = .ok (.getfield 54, 3) := by decide +kernel
theorem dX5_keepPart_25 : decode cX5_keepPart 25 = .ok (.aload_n 0, 1) := by decide +kernel
theorem dX5_keepPart_26 : decode cX5_keepPart 26 = .ok (.getfield 41, 3) := by decide +kernel
theorem dX5_keepPart_29 : decode cX5_keepPart 29 = .ok (.iconst 0, 1) := by decide +kernel
theorem dX5_keepPart_30 : decode cX5_keepPart 30 = .ok (.iastore, 1) := by decide +kernel
theorem dX5_keepPart_31 : decode cX5_keepPart 31 = .ok (.aload_n 2, 1) := by decide +kernel
theorem dX5_keepPart_32 : decode cX5_keepPart 32 = .ok (.ifnull 70, 3) := by decide +kernel
theorem dX5_keepPart_35 : decode cX5_keepPart 35 = .ok (.aload_n 0, 1) := by decide +kernel
theorem dX5_keepPart_36 : decode cX5_keepPart 36 = .ok (.dup, 1) := by decide +kernel
theorem dX5_keepPart_37 : decode cX5_keepPart 37 = .ok (.getfield 22, 3) := by decide +kernel
theorem dX5_keepPart_40 : decode cX5_keepPart 40 = .ok (.aload_n 2, 1) := by decide +kernel
theorem dX5_keepPart_41 : decode cX5_keepPart 41 = .ok (.getfield 131, 3) := by decide +kernel
theorem dX5_keepPart_44 : decode cX5_keepPart 44 = .ok (.invokevirtual 137, 3) := by decide +kernel
theorem dX5_keepPart_47 : decode cX5_keepPart 47 = .ok (.iadd, 1) := by decide +kernel
theorem dX5_keepPart_48 : decode cX5_keepPart 48 = .ok (.putfield 22, 3) := by decide +kernel
theorem dX5_keepPart_51 : decode cX5_keepPart 51 = .ok (.aload_n 0, 1) := by decide +kernel
theorem dX5_keepPart_52 : decode cX5_keepPart 52 = .ok (.getfield 51, 3) := by decide +kernel
theorem dX5_keepPart_55 : decode cX5_keepPart 55 = .ok (.aload_n 0, 1) := by decide +kernel
theorem dX5_keepPart_56 : decode cX5_keepPart 56 = .ok (.getfield 41, 3) := by decide +kernel
theorem dX5_keepPart_59 : decode cX5_keepPart 59 = .ok (.aload_n 2, 1) := by decide +kernel
theorem dX5_keepPart_60 : decode cX5_keepPart 60 = .ok (.getfield 142, 3) := by decide +kernel
theorem dX5_keepPart_63 : decode cX5_keepPart 63 = .ok (.iastore, 1) := by decide +kernel
theorem dX5_keepPart_64 : decode cX5_keepPart 64 = .ok (.aload_n 0, 1) := by decide +kernel
theorem dX5_keepPart_65 : decode cX5_keepPart 65 = .ok (.invokevirtual 78, 3) := by decide +kernel
theorem dX5_keepPart_68 : decode cX5_keepPart 68 = .ok (.aload_n 0, 1) := by decide +kernel
theorem dX5_keepPart_69 : decode cX5_keepPart 69 = .ok (.invokevirtual 96, 3) := by decide +kernel
theorem dX5_keepPart_72 : decode cX5_keepPart 72 = .ok (.bipush 39, 2) := by decide +kernel
theorem dX5_keepPart_74 : decode cX5_keepPart 74 = .ok (.if_icmp .ne 28, 3) := by decide +kernel
theorem dX5_keepPart_77 : decode cX5_keepPart 77 = .ok (.aload_n 0, 1) := by decide +kernel
theorem dX5_keepPart_78 : decode cX5_keepPart 78 = .ok (.dup, 1) := by decide +kernel
theorem dX5_keepPart_79 : decode cX5_keepPart 79 = .ok (.getfield 22, 3) := by decide +kernel
theorem dX5_keepPart_82 : decode cX5_keepPart 82 = .ok (.iconst 1, 1) := by decide +kernel
theorem dX5_keepPart_83 : decode cX5_keepPart 83 = .ok (.iadd, 1) := by decide +kernel
theorem dX5_keepPart_84 : decode cX5_keepPart 84 = .ok (.putfield 22, 3) := by decide +kernel
theorem dX5_keepPart_87 : decode cX5_keepPart 87 = .ok (.aload_n 0, 1) := by decide +kernel
theorem dX5_keepPart_88 : decode cX5_keepPart 88 = .ok (.getfield 54, 3) := by decide +kernel
theorem dX5_keepPart_91 : decode cX5_keepPart 91 = .ok (.aload_n 0, 1) := by decide +kernel
theorem dX5_keepPart_92 : decode cX5_keepPart 92 = .ok (.getfield 41, 3) := by decide +kernel
theorem dX5_keepPart_95 : decode cX5_keepPart 95 = .ok (.iconst 1, 1) := by decide +kernel
theorem dX5_keepPart_96 : decode cX5_keepPart 96 = .ok (.iastore, 1) := by decide +kernel
theorem dX5_keepPart_97 : decode cX5_keepPart 97 = .ok (.aload_n 0, 1) := by decide +kernel
theorem dX5_keepPart_98 : decode cX5_keepPart 98 = .ok (.iconst 1, 1) := by decide +kernel
theorem dX5_keepPart_99 : decode cX5_keepPart 99 = .ok (.putfield 35, 3) := by decide +kernel
theorem dX5_keepPart_102 : decode cX5_keepPart 102 = .ok (.aload_n 0, 1) := by decide +kernel
theorem dX5_keepPart_103 : decode cX5_keepPart 103 = .ok (.dup, 1) := by decide +kernel
theorem dX5_keepPart_104 : decode cX5_keepPart 104 = .ok (.getfield 41, 3) := by decide +kernel
theorem dX5_keepPart_107 : decode cX5_keepPart 107 = .ok (.iconst 1, 1) := by decide +kernel
theorem dX5_keepPart_108 : decode cX5_keepPart 108 = .ok (.iadd, 1) := by decide +kernel
theorem dX5_keepPart_109 : decode cX5_keepPart 109 = .ok (.putfield 41, 3) := by decide +kernel
theorem dX5_keepPart_112 : decode cX5_keepPart 112 = .ok (.return_, 1) := by decide +kernel
set_option maxHeartbeats 4000000 in
set_option maxRecDepth 100000 in
theorem k_X5_keepPart_vnull (l : Launch) (D : va_G) (cy : Nat → ClassId) {L : List Nat} {τ : Nat → Ro} {E : Ec} (hI : Inv TB cy L τ E) {a0 : Nat} (ha0 : a0 ∈ L) (ta0 : τ a0 = (7, 0)) (a1 : Int32) {qe : Nat} (hqe : qe ∈ L) (tqe : τ qe = (33, 0)) {qs : Nat} (hqs : qs ∈ L) (tqs : τ qs = (36, 0)) (hp : (fi E a0 9).toInt ≤ 63) (hR : RdW E a0 qe qs) : CtV l yX5_keepPart wsX5_keepPart { frames := 2, cells := 0, slots := 0, locals := 40 } D TB cy L τ E [.ref a0, .int a1, .null] (inW [(7, 0), (34, 0), (35, 0), (36, 0)]) (fun E' => (∀ k : Nat, k ∉ ([3, 7, 9] : List Nat) → fi E' a0 k = fi E a0 k) ∧ RdW E' a0 qe qs) := by
  intro sz
  refine sta (cc := cX5_keepPart) (maxL := 3) hI (by decide) rfl (Nat.le_of_ble_eq_true rfl) (fun p e s m args below meth c ls hsz Z S0 hl => ?_)
  have hx := Z.1.1
  have hb := Z.1.2.1
  have hts := Z.1.2.2.2.2
  have F0_ : Fr L τ (inW [(7, 0), (34, 0), (35, 0), (36, 0)]) E E := Fr.refl
  have hl : lv_has ls 3 [(0, .ref a0), (1, .int a1), (2, .null)] := hl
  generalize hQ : MQ below _ args s 0 0 _ = QQ
  have kz_a0_9 := fi_rng (k := 9) hI ha0 ta0 rfl rfl
  have kz_a0_7 := fi_rng (k := 7) hI ha0 ta0 rfl rfl
  have kz_a0_3 := fi_rng (k := 3) hI ha0 ta0 rfl rfl
  refine lv_aload_n hx hb dX5_keepPart_0 rfl (lv_at hl 0 rfl) ?_
  refine tr_getr Z.1 Z.2.2.2.1 S0.1 S0.2 ha0 ta0 rfl rfl (fun _ h => List.mem_cons_of_mem _ (List.mem_append_right _ h)) 11 (by decide) rfl (hts _ (List.mem_of_getElem? (i := 1) rfl)) dX5_keepPart_1 (fun q1 eq1 hq1 tq1 => ?_)
  have tq1 : τ q1 = (34, 0) := tq1
  refine lv_aload_n hx hb dX5_keepPart_4 rfl (lv_at hl 0 rfl) ?_
  refine tr_geti Z.1 Z.2.2.2.1 S0.1 S0.2 ha0 ta0 rfl rfl (fun _ h => List.mem_cons_of_mem _ (List.mem_append_right _ h)) 9 (by decide) rfl (hts _ (List.mem_of_getElem? (i := 2) rfl)) dX5_keepPart_5 (fun v2 ev2 lv2 uv2 => ?_)
  have wv2 : v2 = (fi E a0 9) := ev2.symm.trans rfl
  have xv2 : v2.toInt = (fi E a0 9).toInt := by rw [wv2]
  refine lv_iload_n hx hb dX5_keepPart_8 rfl (lv_at hl 1 rfl) ?_
  refine tr_iast Z.1 Z.2.2.2.1 S0.1 S0.2 hq1 tq1 rfl (by omega) (by omega) (by have := fb_rng a1; omega) (by have := fb_rng a1; omega) dX5_keepPart_9 (fun E3 H4 k5 W3 I3 P3 => ?_)
  have S3 : Now D TB cy (va_A (va_pl L E) sz) s L τ E3 H4 k5 := ⟨W3, I3⟩
  have F3 : Fr L τ (inW [(7, 0), (34, 0), (35, 0), (36, 0)]) E E3 := Fr.set F0_ P3 tq1 rfl
  refine lv_aload_n hx hb dX5_keepPart_10 rfl (lv_at hl 0 rfl) ?_
  refine tr_getr Z.1 Z.2.2.2.1 S3.1 S3.2 ha0 ta0 rfl rfl (fun _ h => List.mem_cons_of_mem _ (List.mem_append_right _ h)) 12 (by decide) rfl (hts _ (List.mem_of_getElem? (i := 3) rfl)) dX5_keepPart_11 (fun q6 eq6 hq6 tq6 => ?_)
  have tq6 : τ q6 = (35, 0) := tq6
  refine lv_aload_n hx hb dX5_keepPart_14 rfl (lv_at hl 0 rfl) ?_
  refine tr_geti Z.1 Z.2.2.2.1 S3.1 S3.2 ha0 ta0 rfl rfl (fun _ h => List.mem_cons_of_mem _ (List.mem_append_right _ h)) 9 (by decide) rfl (hts _ (List.mem_of_getElem? (i := 2) rfl)) dX5_keepPart_15 (fun v7 ev7 lv7 uv7 => ?_)
  have wv7 : v7 = v2 := ev7.symm.trans ((fi_set P3 (ne_ro ta0 tq1 (by decide))).trans ev2)
  have xv7 : v7.toInt = v2.toInt := by rw [wv7]
  obtain ⟨v8, ev8, tv8⟩ : ∃ v : Int32, (Int8.ofInt (12)).toInt32 = v ∧ v.toInt = 12 := ⟨_, rfl, by decide +kernel⟩
  refine lv_bipush hx hb dX5_keepPart_18 ev8 ?_
  refine tr_iast Z.1 Z.2.2.2.1 S3.1 S3.2 hq6 tq6 rfl (by omega) (by omega) (by omega) (by omega) dX5_keepPart_20 (fun E9 H10 k11 W9 I9 P9 => ?_)
  have S9 : Now D TB cy (va_A (va_pl L E) sz) s L τ E9 H10 k11 := ⟨W9, I9⟩
  have F9 : Fr L τ (inW [(7, 0), (34, 0), (35, 0), (36, 0)]) E E9 := Fr.set F3 P9 tq6 rfl
  refine lv_aload_n hx hb dX5_keepPart_21 rfl (lv_at hl 0 rfl) ?_
  refine tr_getr Z.1 Z.2.2.2.1 S9.1 S9.2 ha0 ta0 rfl rfl (fun _ h => List.mem_cons_of_mem _ (List.mem_append_right _ h)) 13 (by decide) rfl (hts _ (List.mem_of_getElem? (i := 4) rfl)) dX5_keepPart_22 (fun q12 eq12 hq12 tq12 => ?_)
  have tq12 : τ q12 = (36, 0) := tq12
  have uq12 : qs = q12 := S9.2.2.2.2 _ hqs _ hq12 (tqs.trans tq12.symm) (by rw [tqs]; rfl)
  subst uq12
  refine lv_aload_n hx hb dX5_keepPart_25 rfl (lv_at hl 0 rfl) ?_
  refine tr_geti Z.1 Z.2.2.2.1 S9.1 S9.2 ha0 ta0 rfl rfl (fun _ h => List.mem_cons_of_mem _ (List.mem_append_right _ h)) 9 (by decide) rfl (hts _ (List.mem_of_getElem? (i := 2) rfl)) dX5_keepPart_26 (fun v13 ev13 lv13 uv13 => ?_)
  have wv13 : v13 = v7 := ev13.symm.trans ((fi_set P9 (ne_ro ta0 tq6 (by decide))).trans ev7)
  have xv13 : v13.toInt = v7.toInt := by rw [wv13]
  obtain ⟨v14, ev14, tv14⟩ : ∃ v : Int32, Int32.ofInt (0) = v ∧ v.toInt = 0 := ⟨_, rfl, by decide +kernel⟩
  refine lv_iconst hx hb dX5_keepPart_29 ev14 ?_
  refine tr_iast Z.1 Z.2.2.2.1 S9.1 S9.2 hqs tqs rfl (by omega) (by omega) (by omega) (by omega) dX5_keepPart_30 (fun E15 H16 k17 W15 I15 P15 => ?_)
  have S15 : Now D TB cy (va_A (va_pl L E) sz) s L τ E15 H16 k17 := ⟨W15, I15⟩
  have F15 : Fr L τ (inW [(7, 0), (34, 0), (35, 0), (36, 0)]) E E15 := Fr.set F9 P15 tqs rfl
  refine lv_aload_nN hx hb dX5_keepPart_31 rfl (lv_at hl 2 rfl) ?_
  refine lv_ifnullN (tgt := 102) hx hb dX5_keepPart_32 (by decide) ?_
  refine lv_aload_n hx hb dX5_keepPart_102 rfl (lv_at hl 0 rfl) ?_
  refine lv_dup hx hb dX5_keepPart_103 rfl ?_
  refine tr_geti Z.1 Z.2.2.2.1 S15.1 S15.2 ha0 ta0 rfl rfl (fun _ h => List.mem_cons_of_mem _ (List.mem_append_right _ h)) 9 (by decide) rfl (hts _ (List.mem_of_getElem? (i := 2) rfl)) dX5_keepPart_104 (fun v18 ev18 lv18 uv18 => ?_)
  have wv18 : v18 = v13 := ev18.symm.trans ((fi_set P15 (ne_ro ta0 tqs (by decide))).trans ev13)
  have xv18 : v18.toInt = v13.toInt := by rw [wv18]
  obtain ⟨v19, ev19, tv19⟩ : ∃ v : Int32, Int32.ofInt (1) = v ∧ v.toInt = 1 := ⟨_, rfl, by decide +kernel⟩
  refine lv_iconst hx hb dX5_keepPart_107 ev19 ?_
  refine lv_iadd hx hb dX5_keepPart_108 ?_
  refine lv_topi (fun v20 ev20 => ?_)
  have tv20 := nu_add ev20 (by omega) (by omega)
  refine tr_puti Z.1 Z.2.2.2.1 S15.1 S15.2 ha0 ta0 rfl rfl (fun _ h => List.mem_cons_of_mem _ (List.mem_append_right _ h)) tyX5_ok nmX5 9 (by decide) rfl rfl rfl (hts _ (List.mem_of_getElem? (i := 2) rfl)) dX5_keepPart_109 (by omega) (by omega) (fun E21 H22 k23 W21 I21 P21 => ?_)
  have S21 : Now D TB cy (va_A (va_pl L E) sz) s L τ E21 H22 k23 := ⟨W21, I21⟩
  have F21 : Fr L τ (inW [(7, 0), (34, 0), (35, 0), (36, 0)]) E E21 := Fr.put F15 P21 ta0 rfl
  rw [← hQ]
  exact en_v Z S21 F21 ⟨(fun k hk => ((fi_put P21 (Or.inr (fw_ne (by decide) hk))).trans ((fi_set P15 (ne_ro ta0 tqs (by decide))).trans ((fi_set P9 (ne_ro ta0 tq6 (by decide))).trans ((fi_set P3 (ne_ro ta0 tq1 (by decide))).trans ((fun k hk => rfl) k hk)))))), (RdW.push hR (n := v2) ev2 (by omega) (by rw [(fi_at P21)]; omega) ((fi_put P21 (Or.inr (by decide))).trans ((fi_set P15 (ne_ro ta0 tqs (by decide))).trans ((fi_set P9 (ne_ro ta0 tq6 (by decide))).trans (fi_set P3 (ne_ro ta0 tq1 (by decide)))))) ((P21.1 qe (ne_ro tqe ta0 (by decide))).trans ((P15.1 qe (ne_ro tqe tqs (by decide))).trans ((P9.1 qe (ne_ro tqe tq6 (by decide))).trans (P3.1 qe (ne_ro tqe tq1 (by decide)))))) (by rw [((fi_put P21 (Or.inr (by decide))).trans ((fi_set P15 (ne_ro ta0 tqs (by decide))).trans ((fi_set P9 (ne_ro ta0 tq6 (by decide))).trans ((fi_set P3 (ne_ro ta0 tq1 (by decide))).trans rfl))))]; omega) (fun j hj => ((ai_put P21 (ne_ro tqs ta0 (by decide))).trans ((ai_setk P15 (by show j ≠ v13.toInt.toNat; omega)).trans ((ai_set P9 (ne_ro tqs tq6 (by decide))).trans (ai_set P3 (ne_ro tqs tq1 (by decide))))))) (by have q : ai E21 qs v13.toNatClampNeg = v14 := ((ai_put P21 (ne_ro tqs ta0 (by decide))).trans P15.2.1); rw [show v2.toInt.toNat = v13.toNatClampNeg from by show _ = v13.toInt.toNat; omega, q, ((fi_put P21 (Or.inr (by decide))).trans ((fi_set P15 (ne_ro ta0 tqs (by decide))).trans ((fi_set P9 (ne_ro ta0 tq6 (by decide))).trans ((fi_set P3 (ne_ro ta0 tq1 (by decide))).trans rfl))))]; omega))⟩ dX5_keepPart_112

set_option maxHeartbeats 4000000 in
set_option maxRecDepth 100000 in
theorem k_X5_keepPart_vN (l : Launch) (D : va_G) (cy : Nat → ClassId) {L : List Nat} {τ : Nat → Ro} {E : Ec} (hI : Inv TB cy L τ E) {G : Sg} {a0 : Nat} (ha0 : a0 ∈ L) (ta0 : τ a0 = (7, 0)) (a1 : Int32) {i2 : Nat} (hi2 : i2 < 8) {qe : Nat} (hqe : qe ∈ L) (tqe : τ qe = (33, 0)) {qs : Nat} (hqs : qs ∈ L) (tqs : τ qs = (36, 0)) (hp : (fi E a0 9).toInt ≤ 63) (hl : (fi E a0 3).toInt + ((lenS.getD i2 0 : Nat) : Int) ≤ 120) (hR : RdW E a0 qe qs) : CtV1 G l yX5_keepPart wsX5_keepPart { frames := 2, cells := 0, slots := 0, locals := 40 } D TB cy L τ E [.ref a0, .int a1, .ref (G.2.2.1 i2)] (inW [(7, 0), (34, 0), (35, 0), (36, 0)]) (fun E' => (∀ k : Nat, k ∉ ([3, 7, 9] : List Nat) → fi E' a0 k = fi E a0 k) ∧ RdW E' a0 qe qs) := by
  intro sz
  refine sta1 (cc := cX5_keepPart) (maxL := 3) hI (by decide) rfl (Nat.le_of_ble_eq_true rfl) (fun p e s m args below meth c ls hsz Z SZ S0 hl => ?_)
  have hx := Z.1.1
  have hb := Z.1.2.1
  have hts := Z.1.2.2.2.2
  have F0_ : Fr L τ (inW [(7, 0), (34, 0), (35, 0), (36, 0)]) E E := Fr.refl
  have hl : lv_has ls 3 [(0, .ref a0), (1, .int a1), (2, .ref (G.2.2.1 i2))] := hl
  generalize hQ : MQ below _ args s 0 0 _ = QQ
  have kz_a0_9 := fi_rng (k := 9) hI ha0 ta0 rfl rfl
  have kz_a0_7 := fi_rng (k := 7) hI ha0 ta0 rfl rfl
  have kz_a0_3 := fi_rng (k := 3) hI ha0 ta0 rfl rfl
  refine lv_aload_n hx hb dX5_keepPart_0 rfl (lv_at hl 0 rfl) ?_
  refine tr_getr Z.1 Z.2.2.2.1 S0.1 S0.2 ha0 ta0 rfl rfl (fun _ h => List.mem_cons_of_mem _ (List.mem_append_right _ h)) 11 (by decide) rfl (hts _ (List.mem_of_getElem? (i := 1) rfl)) dX5_keepPart_1 (fun q1 eq1 hq1 tq1 => ?_)
  have tq1 : τ q1 = (34, 0) := tq1
  refine lv_aload_n hx hb dX5_keepPart_4 rfl (lv_at hl 0 rfl) ?_
  refine tr_geti Z.1 Z.2.2.2.1 S0.1 S0.2 ha0 ta0 rfl rfl (fun _ h => List.mem_cons_of_mem _ (List.mem_append_right _ h)) 9 (by decide) rfl (hts _ (List.mem_of_getElem? (i := 2) rfl)) dX5_keepPart_5 (fun v2 ev2 lv2 uv2 => ?_)
  have wv2 : v2 = (fi E a0 9) := ev2.symm.trans rfl
  have xv2 : v2.toInt = (fi E a0 9).toInt := by rw [wv2]
  refine lv_iload_n hx hb dX5_keepPart_8 rfl (lv_at hl 1 rfl) ?_
  refine tr_iast Z.1 Z.2.2.2.1 S0.1 S0.2 hq1 tq1 rfl (by omega) (by omega) (by have := fb_rng a1; omega) (by have := fb_rng a1; omega) dX5_keepPart_9 (fun E3 H4 k5 W3 I3 P3 => ?_)
  have S3 : Now D TB cy (va_A (va_pl L E) sz) s L τ E3 H4 k5 := ⟨W3, I3⟩
  have F3 : Fr L τ (inW [(7, 0), (34, 0), (35, 0), (36, 0)]) E E3 := Fr.set F0_ P3 tq1 rfl
  refine lv_aload_n hx hb dX5_keepPart_10 rfl (lv_at hl 0 rfl) ?_
  refine tr_getr Z.1 Z.2.2.2.1 S3.1 S3.2 ha0 ta0 rfl rfl (fun _ h => List.mem_cons_of_mem _ (List.mem_append_right _ h)) 12 (by decide) rfl (hts _ (List.mem_of_getElem? (i := 3) rfl)) dX5_keepPart_11 (fun q6 eq6 hq6 tq6 => ?_)
  have tq6 : τ q6 = (35, 0) := tq6
  refine lv_aload_n hx hb dX5_keepPart_14 rfl (lv_at hl 0 rfl) ?_
  refine tr_geti Z.1 Z.2.2.2.1 S3.1 S3.2 ha0 ta0 rfl rfl (fun _ h => List.mem_cons_of_mem _ (List.mem_append_right _ h)) 9 (by decide) rfl (hts _ (List.mem_of_getElem? (i := 2) rfl)) dX5_keepPart_15 (fun v7 ev7 lv7 uv7 => ?_)
  have wv7 : v7 = v2 := ev7.symm.trans ((fi_set P3 (ne_ro ta0 tq1 (by decide))).trans ev2)
  have xv7 : v7.toInt = v2.toInt := by rw [wv7]
  obtain ⟨v8, ev8, tv8⟩ : ∃ v : Int32, (Int8.ofInt (12)).toInt32 = v ∧ v.toInt = 12 := ⟨_, rfl, by decide +kernel⟩
  refine lv_bipush hx hb dX5_keepPart_18 ev8 ?_
  refine tr_iast Z.1 Z.2.2.2.1 S3.1 S3.2 hq6 tq6 rfl (by omega) (by omega) (by omega) (by omega) dX5_keepPart_20 (fun E9 H10 k11 W9 I9 P9 => ?_)
  have S9 : Now D TB cy (va_A (va_pl L E) sz) s L τ E9 H10 k11 := ⟨W9, I9⟩
  have F9 : Fr L τ (inW [(7, 0), (34, 0), (35, 0), (36, 0)]) E E9 := Fr.set F3 P9 tq6 rfl
  refine lv_aload_n hx hb dX5_keepPart_21 rfl (lv_at hl 0 rfl) ?_
  refine tr_getr Z.1 Z.2.2.2.1 S9.1 S9.2 ha0 ta0 rfl rfl (fun _ h => List.mem_cons_of_mem _ (List.mem_append_right _ h)) 13 (by decide) rfl (hts _ (List.mem_of_getElem? (i := 4) rfl)) dX5_keepPart_22 (fun q12 eq12 hq12 tq12 => ?_)
  have tq12 : τ q12 = (36, 0) := tq12
  have uq12 : qs = q12 := S9.2.2.2.2 _ hqs _ hq12 (tqs.trans tq12.symm) (by rw [tqs]; rfl)
  subst uq12
  refine lv_aload_n hx hb dX5_keepPart_25 rfl (lv_at hl 0 rfl) ?_
  refine tr_geti Z.1 Z.2.2.2.1 S9.1 S9.2 ha0 ta0 rfl rfl (fun _ h => List.mem_cons_of_mem _ (List.mem_append_right _ h)) 9 (by decide) rfl (hts _ (List.mem_of_getElem? (i := 2) rfl)) dX5_keepPart_26 (fun v13 ev13 lv13 uv13 => ?_)
  have wv13 : v13 = v7 := ev13.symm.trans ((fi_set P9 (ne_ro ta0 tq6 (by decide))).trans ev7)
  have xv13 : v13.toInt = v7.toInt := by rw [wv13]
  obtain ⟨v14, ev14, tv14⟩ : ∃ v : Int32, Int32.ofInt (0) = v ∧ v.toInt = 0 := ⟨_, rfl, by decide +kernel⟩
  refine lv_iconst hx hb dX5_keepPart_29 ev14 ?_
  refine tr_iast Z.1 Z.2.2.2.1 S9.1 S9.2 hqs tqs rfl (by omega) (by omega) (by omega) (by omega) dX5_keepPart_30 (fun E15 H16 k17 W15 I15 P15 => ?_)
  have S15 : Now D TB cy (va_A (va_pl L E) sz) s L τ E15 H16 k17 := ⟨W15, I15⟩
  have F15 : Fr L τ (inW [(7, 0), (34, 0), (35, 0), (36, 0)]) E E15 := Fr.set F9 P15 tqs rfl
  refine lv_aload_n hx hb dX5_keepPart_31 rfl (lv_at hl 2 rfl) ?_
  refine lv_ifnull hx hb dX5_keepPart_32 ?_
  refine lv_aload_n hx hb dX5_keepPart_35 rfl (lv_at hl 0 rfl) ?_
  refine lv_dup hx hb dX5_keepPart_36 rfl ?_
  refine tr_geti Z.1 Z.2.2.2.1 S15.1 S15.2 ha0 ta0 rfl rfl (fun _ h => List.mem_cons_of_mem _ (List.mem_append_right _ h)) 3 (by decide) rfl (hts _ (List.mem_of_getElem? (i := 5) rfl)) dX5_keepPart_37 (fun v18 ev18 lv18 uv18 => ?_)
  have wv18 : v18 = (fi E a0 3) := ev18.symm.trans ((fi_set P15 (ne_ro ta0 tqs (by decide))).trans ((fi_set P9 (ne_ro ta0 tq6 (by decide))).trans ((fi_set P3 (ne_ro ta0 tq1 (by decide))).trans rfl)))
  have xv18 : v18.toInt = (fi E a0 3).toInt := by rw [wv18]
  refine lv_aload_n hx hb dX5_keepPart_40 rfl (lv_at hl 2 rfl) ?_
  refine vk_getf hx hb (SZ.2.2.1 (i2) hi2).2 S15.1.2.2 Z.1.2.2.2.1 (hts _ (List.mem_of_getElem? (i := 6) rfl)) (fun _ h => h) dX5_keepPart_41 ?_
  refine tcS_vi Z.1 Z.2.2.2.1 Z.2.2.2.2.1 Z.2.2.2.2.2 SZ S15.1 (Nat.lt_trans hi2 (by decide)) (k_J0_length_8abf5 l D cy S15.2 (Nat.lt_trans hi2 (by decide))) (cwV 0 hts gX5_keepPart_J0_length_8abf5 rfl rfl rfl (by decide +kernel) ⟨Nat.le_of_ble_eq_true rfl, Nat.le_of_ble_eq_true rfl⟩) rfl hl.1 rfl (Nat.le_of_ble_eq_true rfl) dX5_keepPart_44 ⟨Nat.zero_le _, Nat.zero_le _⟩ (fun v22 E19 H20 k21 W19 I19 G19 p19 => ?_)
  obtain ⟨q19, p19_0, p19_1, p19_2⟩ := p19
  have q19 := q19.symm
  subst q19
  have S19 : Now D TB cy (va_A (va_pl L E) sz) s L τ E15 H20 k21 := ⟨W19, I19⟩
  refine lv_iadd hx hb dX5_keepPart_47 ?_
  refine lv_topi (fun v23 ev23 => ?_)
  have tv23 := nu_add ev23 (by omega) (by omega)
  refine tr_puti Z.1 Z.2.2.2.1 S19.1 S19.2 ha0 ta0 rfl rfl (fun _ h => List.mem_cons_of_mem _ (List.mem_append_right _ h)) tyX5_ok nmX5 3 (by decide) rfl rfl rfl (hts _ (List.mem_of_getElem? (i := 5) rfl)) dX5_keepPart_48 (by omega) (by omega) (fun E24 H25 k26 W24 I24 P24 => ?_)
  have S24 : Now D TB cy (va_A (va_pl L E) sz) s L τ E24 H25 k26 := ⟨W24, I24⟩
  have F24 : Fr L τ (inW [(7, 0), (34, 0), (35, 0), (36, 0)]) E E24 := Fr.put F15 P24 ta0 rfl
  refine lv_aload_n hx hb dX5_keepPart_51 rfl (lv_at hl 0 rfl) ?_
  refine tr_getr Z.1 Z.2.2.2.1 S24.1 S24.2 ha0 ta0 rfl rfl (fun _ h => List.mem_cons_of_mem _ (List.mem_append_right _ h)) 12 (by decide) rfl (hts _ (List.mem_of_getElem? (i := 3) rfl)) dX5_keepPart_52 (fun q27 eq27 hq27 tq27 => ?_)
  have tq27 : τ q27 = (35, 0) := tq27
  have uq27 : q6 = q27 := S24.2.2.2.2 _ hq6 _ hq27 (tq6.trans tq27.symm) (by rw [tq6]; rfl)
  subst uq27
  refine lv_aload_n hx hb dX5_keepPart_55 rfl (lv_at hl 0 rfl) ?_
  refine tr_geti Z.1 Z.2.2.2.1 S24.1 S24.2 ha0 ta0 rfl rfl (fun _ h => List.mem_cons_of_mem _ (List.mem_append_right _ h)) 9 (by decide) rfl (hts _ (List.mem_of_getElem? (i := 2) rfl)) dX5_keepPart_56 (fun v28 ev28 lv28 uv28 => ?_)
  have wv28 : v28 = v13 := ev28.symm.trans ((fi_put P24 (Or.inr (by decide))).trans ((fi_set P15 (ne_ro ta0 tqs (by decide))).trans ev13))
  have xv28 : v28.toInt = v13.toInt := by rw [wv28]
  refine lv_aload_n hx hb dX5_keepPart_59 rfl (lv_at hl 2 rfl) ?_
  refine vk_getf hx hb (SZ.2.2.1 (i2) hi2).1 S24.1.2.2 Z.1.2.2.2.1 (hts _ (List.mem_of_getElem? (i := 7) rfl)) (fun _ h => h) dX5_keepPart_60 ?_
  refine lv_topi (fun v29 ev29 => ?_)
  have tv29 := (show 0 ≤ v29.toInt ∧ v29.toInt ≤ 12 by rw [ev29]; exact rowS_rng hi2)
  refine tr_iast Z.1 Z.2.2.2.1 S24.1 S24.2 hq6 tq6 rfl (by omega) (by omega) (by omega) (by omega) dX5_keepPart_63 (fun E30 H31 k32 W30 I30 P30 => ?_)
  have S30 : Now D TB cy (va_A (va_pl L E) sz) s L τ E30 H31 k32 := ⟨W30, I30⟩
  have F30 : Fr L τ (inW [(7, 0), (34, 0), (35, 0), (36, 0)]) E E30 := Fr.set F24 P30 tq6 rfl
  refine lv_aload_n hx hb dX5_keepPart_64 rfl (lv_at hl 0 rfl) ?_
  refine tc_vv Z.1 Z.2.2.2.1 Z.2.2.2.2.1 Z.2.2.2.2.2 S30.1 S30.2 ha0 ta0 rfl rfl (k_X5_skipBlanks l D cy S30.2 ha0 ta0) (cwV 0 hts gX5_keepPart_X5_skipBlanks rfl rfl rfl (by decide +kernel) ⟨Nat.le_of_ble_eq_true rfl, Nat.le_of_ble_eq_true rfl⟩) rfl hl.1 rfl (Nat.le_of_ble_eq_true rfl) dX5_keepPart_65 ⟨Nat.zero_le _, Nat.zero_le _⟩ (fun E33 H34 k35 W33 I33 G33 p33 => ?_)
  have p33_0 := p33
  have S33 : Now D TB cy (va_A (va_pl L E) sz) s L τ E33 H34 k35 := ⟨W33, I33⟩
  have F33 : Fr L τ (inW [(7, 0), (34, 0), (35, 0), (36, 0)]) E E33 := F30.trans (G33.mono (inW_mono (by decide)))
  refine lv_aload_n hx hb dX5_keepPart_68 rfl (lv_at hl 0 rfl) ?_
  refine tc_vi Z.1 Z.2.2.2.1 Z.2.2.2.2.1 Z.2.2.2.2.2 S33.1 S33.2 ha0 ta0 rfl rfl (k_X5_peek l D cy S33.2 ha0 ta0) (cwV 0 hts gX5_keepPart_X5_peek rfl rfl rfl (by decide +kernel) ⟨Nat.le_of_ble_eq_true rfl, Nat.le_of_ble_eq_true rfl⟩) rfl hl.1 rfl (Nat.le_of_ble_eq_true rfl) dX5_keepPart_69 ⟨Nat.zero_le _, Nat.zero_le _⟩ (fun v40 E37 H38 k39 W37 I37 G37 p37 => ?_)
  obtain ⟨q37, p37_0, p37_1, p37_2⟩ := p37
  have q37 := q37.symm
  subst q37
  have S37 : Now D TB cy (va_A (va_pl L E) sz) s L τ E33 H38 k39 := ⟨W37, I37⟩
  have kz37_3 := fi_rng (k := 3) S37.2 ha0 ta0 rfl rfl
  obtain ⟨v41, ev41, tv41⟩ : ∃ v : Int32, (Int8.ofInt (39)).toInt32 = v ∧ v.toInt = 39 := ⟨_, rfl, by decide +kernel⟩
  refine lv_bipush hx hb dX5_keepPart_72 ev41 ?_
  refine lv_icmp_ne (tgt := 102) hx hb dX5_keepPart_74 (by decide) (fun c42 => ?_) (fun c42 => ?_)
  · skip
    have tc42 := nu_ne c42
    refine lv_aload_n hx hb dX5_keepPart_102 rfl (lv_at hl 0 rfl) ?_
    refine lv_dup hx hb dX5_keepPart_103 rfl ?_
    refine tr_geti Z.1 Z.2.2.2.1 S37.1 S37.2 ha0 ta0 rfl rfl (fun _ h => List.mem_cons_of_mem _ (List.mem_append_right _ h)) 9 (by decide) rfl (hts _ (List.mem_of_getElem? (i := 2) rfl)) dX5_keepPart_104 (fun v43 ev43 lv43 uv43 => ?_)
    have wv43 : v43 = v28 := ev43.symm.trans ((p33_0 9 (by decide)).trans ((fi_set P30 (ne_ro ta0 tq6 (by decide))).trans ev28))
    have xv43 : v43.toInt = v28.toInt := by rw [wv43]
    obtain ⟨v44, ev44, tv44⟩ : ∃ v : Int32, Int32.ofInt (1) = v ∧ v.toInt = 1 := ⟨_, rfl, by decide +kernel⟩
    refine lv_iconst hx hb dX5_keepPart_107 ev44 ?_
    refine lv_iadd hx hb dX5_keepPart_108 ?_
    refine lv_topi (fun v45 ev45 => ?_)
    have tv45 := nu_add ev45 (by omega) (by omega)
    refine tr_puti Z.1 Z.2.2.2.1 S37.1 S37.2 ha0 ta0 rfl rfl (fun _ h => List.mem_cons_of_mem _ (List.mem_append_right _ h)) tyX5_ok nmX5 9 (by decide) rfl rfl rfl (hts _ (List.mem_of_getElem? (i := 2) rfl)) dX5_keepPart_109 (by omega) (by omega) (fun E46 H47 k48 W46 I46 P46 => ?_)
    have S46 : Now D TB cy (va_A (va_pl L E) sz) s L τ E46 H47 k48 := ⟨W46, I46⟩
    have F46 : Fr L τ (inW [(7, 0), (34, 0), (35, 0), (36, 0)]) E E46 := Fr.put F33 P46 ta0 rfl
    rw [← hQ]
    exact en_v Z S46 F46 ⟨(fun k hk => ((fi_put P46 (Or.inr (fw_ne (by decide) hk))).trans ((p33_0 k (fw_sub (by decide) hk)).trans ((fi_set P30 (ne_ro ta0 tq6 (by decide))).trans ((fi_put P24 (Or.inr (fw_ne (by decide) hk))).trans ((fi_set P15 (ne_ro ta0 tqs (by decide))).trans ((fi_set P9 (ne_ro ta0 tq6 (by decide))).trans ((fi_set P3 (ne_ro ta0 tq1 (by decide))).trans ((fun k hk => rfl) k hk))))))))), (RdW.push hR (n := v2) ev2 (by omega) (by rw [(fi_at P46)]; omega) ((fi_put P46 (Or.inr (by decide))).trans ((p33_0 8 (by decide)).trans ((fi_set P30 (ne_ro ta0 tq6 (by decide))).trans ((fi_put P24 (Or.inr (by decide))).trans ((fi_set P15 (ne_ro ta0 tqs (by decide))).trans ((fi_set P9 (ne_ro ta0 tq6 (by decide))).trans (fi_set P3 (ne_ro ta0 tq1 (by decide))))))))) ((P46.1 qe (ne_ro tqe ta0 (by decide))).trans ((G33 qe hqe (by rw [tqe]; rfl)).trans ((P30.1 qe (ne_ro tqe tq6 (by decide))).trans ((P24.1 qe (ne_ro tqe ta0 (by decide))).trans ((P15.1 qe (ne_ro tqe tqs (by decide))).trans ((P9.1 qe (ne_ro tqe tq6 (by decide))).trans (P3.1 qe (ne_ro tqe tq1 (by decide))))))))) (by rw [((fi_put P46 (Or.inr (by decide))).trans ((p33_0 7 (by decide)).trans ((fi_set P30 (ne_ro ta0 tq6 (by decide))).trans ((fi_put P24 (Or.inr (by decide))).trans ((fi_set P15 (ne_ro ta0 tqs (by decide))).trans ((fi_set P9 (ne_ro ta0 tq6 (by decide))).trans ((fi_set P3 (ne_ro ta0 tq1 (by decide))).trans rfl)))))))]; omega) (fun j hj => ((ai_put P46 (ne_ro tqs ta0 (by decide))).trans ((ai_fr G33 hqs (by rw [tqs]; rfl)).trans ((ai_set P30 (ne_ro tqs tq6 (by decide))).trans ((ai_put P24 (ne_ro tqs ta0 (by decide))).trans ((ai_setk P15 (by show j ≠ v13.toInt.toNat; omega)).trans ((ai_set P9 (ne_ro tqs tq6 (by decide))).trans (ai_set P3 (ne_ro tqs tq1 (by decide)))))))))) (by have q : ai E46 qs v13.toNatClampNeg = v14 := (((ai_put P46 (ne_ro tqs ta0 (by decide))).trans ((ai_fr G33 hqs (by rw [tqs]; rfl)).trans ((ai_set P30 (ne_ro tqs tq6 (by decide))).trans (ai_put P24 (ne_ro tqs ta0 (by decide)))))).trans P15.2.1); rw [show v2.toInt.toNat = v13.toNatClampNeg from by show _ = v13.toInt.toNat; omega, q, ((fi_put P46 (Or.inr (by decide))).trans ((p33_0 7 (by decide)).trans ((fi_set P30 (ne_ro ta0 tq6 (by decide))).trans ((fi_put P24 (Or.inr (by decide))).trans ((fi_set P15 (ne_ro ta0 tqs (by decide))).trans ((fi_set P9 (ne_ro ta0 tq6 (by decide))).trans ((fi_set P3 (ne_ro ta0 tq1 (by decide))).trans rfl)))))))]; omega))⟩ dX5_keepPart_112
  · skip
    have tc42 := nu_eq c42
    refine lv_aload_n hx hb dX5_keepPart_77 rfl (lv_at hl 0 rfl) ?_
    refine lv_dup hx hb dX5_keepPart_78 rfl ?_
    refine tr_geti Z.1 Z.2.2.2.1 S37.1 S37.2 ha0 ta0 rfl rfl (fun _ h => List.mem_cons_of_mem _ (List.mem_append_right _ h)) 3 (by decide) rfl (hts _ (List.mem_of_getElem? (i := 5) rfl)) dX5_keepPart_79 (fun v49 ev49 lv49 uv49 => ?_)
    have wv49 : v49 = (fi E33 a0 3) := ev49.symm.trans rfl
    have xv49 : v49.toInt = (fi E33 a0 3).toInt := by rw [wv49]
    obtain ⟨v50, ev50, tv50⟩ : ∃ v : Int32, Int32.ofInt (1) = v ∧ v.toInt = 1 := ⟨_, rfl, by decide +kernel⟩
    refine lv_iconst hx hb dX5_keepPart_82 ev50 ?_
    refine lv_iadd hx hb dX5_keepPart_83 ?_
    refine lv_topi (fun v51 ev51 => ?_)
    have tv51 := nu_add ev51 (by omega) (by omega)
    refine tr_puti Z.1 Z.2.2.2.1 S37.1 S37.2 ha0 ta0 rfl rfl (fun _ h => List.mem_cons_of_mem _ (List.mem_append_right _ h)) tyX5_ok nmX5 3 (by decide) rfl rfl rfl (hts _ (List.mem_of_getElem? (i := 5) rfl)) dX5_keepPart_84 (by omega) (by omega) (fun E52 H53 k54 W52 I52 P52 => ?_)
    have S52 : Now D TB cy (va_A (va_pl L E) sz) s L τ E52 H53 k54 := ⟨W52, I52⟩
    have F52 : Fr L τ (inW [(7, 0), (34, 0), (35, 0), (36, 0)]) E E52 := Fr.put F33 P52 ta0 rfl
    refine lv_aload_n hx hb dX5_keepPart_87 rfl (lv_at hl 0 rfl) ?_
    refine tr_getr Z.1 Z.2.2.2.1 S52.1 S52.2 ha0 ta0 rfl rfl (fun _ h => List.mem_cons_of_mem _ (List.mem_append_right _ h)) 13 (by decide) rfl (hts _ (List.mem_of_getElem? (i := 4) rfl)) dX5_keepPart_88 (fun q55 eq55 hq55 tq55 => ?_)
    have tq55 : τ q55 = (36, 0) := tq55
    have uq55 : qs = q55 := S52.2.2.2.2 _ hqs _ hq55 (tqs.trans tq55.symm) (by rw [tqs]; rfl)
    subst uq55
    refine lv_aload_n hx hb dX5_keepPart_91 rfl (lv_at hl 0 rfl) ?_
    refine tr_geti Z.1 Z.2.2.2.1 S52.1 S52.2 ha0 ta0 rfl rfl (fun _ h => List.mem_cons_of_mem _ (List.mem_append_right _ h)) 9 (by decide) rfl (hts _ (List.mem_of_getElem? (i := 2) rfl)) dX5_keepPart_92 (fun v56 ev56 lv56 uv56 => ?_)
    have wv56 : v56 = v28 := ev56.symm.trans ((fi_put P52 (Or.inr (by decide))).trans ((p33_0 9 (by decide)).trans ((fi_set P30 (ne_ro ta0 tq6 (by decide))).trans ev28)))
    have xv56 : v56.toInt = v28.toInt := by rw [wv56]
    obtain ⟨v57, ev57, tv57⟩ : ∃ v : Int32, Int32.ofInt (1) = v ∧ v.toInt = 1 := ⟨_, rfl, by decide +kernel⟩
    refine lv_iconst hx hb dX5_keepPart_95 ev57 ?_
    refine tr_iast Z.1 Z.2.2.2.1 S52.1 S52.2 hqs tqs rfl (by omega) (by omega) (by omega) (by omega) dX5_keepPart_96 (fun E58 H59 k60 W58 I58 P58 => ?_)
    have S58 : Now D TB cy (va_A (va_pl L E) sz) s L τ E58 H59 k60 := ⟨W58, I58⟩
    have F58 : Fr L τ (inW [(7, 0), (34, 0), (35, 0), (36, 0)]) E E58 := Fr.set F52 P58 tqs rfl
    refine lv_aload_n hx hb dX5_keepPart_97 rfl (lv_at hl 0 rfl) ?_
    obtain ⟨v61, ev61, tv61⟩ : ∃ v : Int32, Int32.ofInt (1) = v ∧ v.toInt = 1 := ⟨_, rfl, by decide +kernel⟩
    refine lv_iconst hx hb dX5_keepPart_98 ev61 ?_
    refine tr_putz Z.1 Z.2.2.2.1 S58.1 S58.2 ha0 ta0 rfl rfl (fun _ h => List.mem_cons_of_mem _ (List.mem_append_right _ h)) tyX5_ok nmX5 7 (by decide) rfl rfl rfl (hts _ (List.mem_of_getElem? (i := 8) rfl)) dX5_keepPart_99 (by omega) (by omega) (fun E62 H63 k64 W62 I62 P62 => ?_)
    have S62 : Now D TB cy (va_A (va_pl L E) sz) s L τ E62 H63 k64 := ⟨W62, I62⟩
    have F62 : Fr L τ (inW [(7, 0), (34, 0), (35, 0), (36, 0)]) E E62 := Fr.put F58 P62 ta0 rfl
    refine lv_aload_n hx hb dX5_keepPart_102 rfl (lv_at hl 0 rfl) ?_
    refine lv_dup hx hb dX5_keepPart_103 rfl ?_
    refine tr_geti Z.1 Z.2.2.2.1 S62.1 S62.2 ha0 ta0 rfl rfl (fun _ h => List.mem_cons_of_mem _ (List.mem_append_right _ h)) 9 (by decide) rfl (hts _ (List.mem_of_getElem? (i := 2) rfl)) dX5_keepPart_104 (fun v65 ev65 lv65 uv65 => ?_)
    have wv65 : v65 = v56 := ev65.symm.trans ((fi_put P62 (Or.inr (by decide))).trans ((fi_set P58 (ne_ro ta0 tqs (by decide))).trans ev56))
    have xv65 : v65.toInt = v56.toInt := by rw [wv65]
    obtain ⟨v66, ev66, tv66⟩ : ∃ v : Int32, Int32.ofInt (1) = v ∧ v.toInt = 1 := ⟨_, rfl, by decide +kernel⟩
    refine lv_iconst hx hb dX5_keepPart_107 ev66 ?_
    refine lv_iadd hx hb dX5_keepPart_108 ?_
    refine lv_topi (fun v67 ev67 => ?_)
    have tv67 := nu_add ev67 (by omega) (by omega)
    refine tr_puti Z.1 Z.2.2.2.1 S62.1 S62.2 ha0 ta0 rfl rfl (fun _ h => List.mem_cons_of_mem _ (List.mem_append_right _ h)) tyX5_ok nmX5 9 (by decide) rfl rfl rfl (hts _ (List.mem_of_getElem? (i := 2) rfl)) dX5_keepPart_109 (by omega) (by omega) (fun E68 H69 k70 W68 I68 P68 => ?_)
    have S68 : Now D TB cy (va_A (va_pl L E) sz) s L τ E68 H69 k70 := ⟨W68, I68⟩
    have F68 : Fr L τ (inW [(7, 0), (34, 0), (35, 0), (36, 0)]) E E68 := Fr.put F62 P68 ta0 rfl
    rw [← hQ]
    exact en_v Z S68 F68 ⟨(fun k hk => ((fi_put P68 (Or.inr (fw_ne (by decide) hk))).trans ((fi_put P62 (Or.inr (fw_ne (by decide) hk))).trans ((fi_set P58 (ne_ro ta0 tqs (by decide))).trans ((fi_put P52 (Or.inr (fw_ne (by decide) hk))).trans ((p33_0 k (fw_sub (by decide) hk)).trans ((fi_set P30 (ne_ro ta0 tq6 (by decide))).trans ((fi_put P24 (Or.inr (fw_ne (by decide) hk))).trans ((fi_set P15 (ne_ro ta0 tqs (by decide))).trans ((fi_set P9 (ne_ro ta0 tq6 (by decide))).trans ((fi_set P3 (ne_ro ta0 tq1 (by decide))).trans ((fun k hk => rfl) k hk)))))))))))), (RdW.push hR (n := v2) ev2 (by omega) (by rw [(fi_at P68)]; omega) ((fi_put P68 (Or.inr (by decide))).trans ((fi_put P62 (Or.inr (by decide))).trans ((fi_set P58 (ne_ro ta0 tqs (by decide))).trans ((fi_put P52 (Or.inr (by decide))).trans ((p33_0 8 (by decide)).trans ((fi_set P30 (ne_ro ta0 tq6 (by decide))).trans ((fi_put P24 (Or.inr (by decide))).trans ((fi_set P15 (ne_ro ta0 tqs (by decide))).trans ((fi_set P9 (ne_ro ta0 tq6 (by decide))).trans (fi_set P3 (ne_ro ta0 tq1 (by decide)))))))))))) ((P68.1 qe (ne_ro tqe ta0 (by decide))).trans ((P62.1 qe (ne_ro tqe ta0 (by decide))).trans ((P58.1 qe (ne_ro tqe tqs (by decide))).trans ((P52.1 qe (ne_ro tqe ta0 (by decide))).trans ((G33 qe hqe (by rw [tqe]; rfl)).trans ((P30.1 qe (ne_ro tqe tq6 (by decide))).trans ((P24.1 qe (ne_ro tqe ta0 (by decide))).trans ((P15.1 qe (ne_ro tqe tqs (by decide))).trans ((P9.1 qe (ne_ro tqe tq6 (by decide))).trans (P3.1 qe (ne_ro tqe tq1 (by decide)))))))))))) (by rw [((fi_put P68 (Or.inr (by decide))).trans (fi_at P62))]; omega) (fun j hj => ((ai_put P68 (ne_ro tqs ta0 (by decide))).trans ((ai_put P62 (ne_ro tqs ta0 (by decide))).trans ((ai_setk P58 (by show j ≠ v56.toInt.toNat; omega)).trans ((ai_put P52 (ne_ro tqs ta0 (by decide))).trans ((ai_fr G33 hqs (by rw [tqs]; rfl)).trans ((ai_set P30 (ne_ro tqs tq6 (by decide))).trans ((ai_put P24 (ne_ro tqs ta0 (by decide))).trans ((ai_setk P15 (by show j ≠ v13.toInt.toNat; omega)).trans ((ai_set P9 (ne_ro tqs tq6 (by decide))).trans (ai_set P3 (ne_ro tqs tq1 (by decide))))))))))))) (by have q : ai E68 qs v56.toNatClampNeg = v57 := (((ai_put P68 (ne_ro tqs ta0 (by decide))).trans (ai_put P62 (ne_ro tqs ta0 (by decide)))).trans P58.2.1); rw [show v2.toInt.toNat = v56.toNatClampNeg from by show _ = v56.toInt.toNat; omega, q, ((fi_put P68 (Or.inr (by decide))).trans (fi_at P62))]; omega))⟩ dX5_keepPart_112

set_option maxRecDepth 20000 in
theorem ggX5_readPart_X5_skipBlanks : GoodIn wsX5_readPart wsX5_skipBlanks := goodIn_r _ [8, 1, 9, 10, 106, 107, 108, 109, 110, 111, 112, 113, 114, 115, 116, 117, 118, 119] (by decide +kernel) (by decide +kernel)
set_option maxRecDepth 20000 in
theorem gX5_readPart_X5_skipBlanks : GoodIn wsX5_readPart (wsV RX5 78 RX5 yX5_skipBlanks wsX5_skipBlanks) := goodIn_app (goodIn_of _ (by decide +kernel)) ggX5_readPart_X5_skipBlanks
set_option maxRecDepth 20000 in
theorem ggX5_readPart_X5_peek : GoodIn wsX5_readPart wsX5_peek := goodIn_r _ [14, 1, 9, 10, 106, 107, 108, 109, 110, 111, 112, 113, 114, 115, 116, 117, 118, 119] (by decide +kernel) (by decide +kernel)
set_option maxRecDepth 20000 in
theorem gX5_readPart_X5_peek : GoodIn wsX5_readPart (wsV RX5 96 RX5 yX5_peek wsX5_peek) := goodIn_app (goodIn_of _ (by decide +kernel)) ggX5_readPart_X5_peek
set_option maxRecDepth 20000 in
theorem ggX5_readPart_X5_isDigit : GoodIn wsX5_readPart wsX5_isDigit := goodIn_r _ [17] (by decide +kernel) (by decide +kernel)
set_option maxRecDepth 20000 in
theorem gX5_readPart_X5_isDigit : GoodIn wsX5_readPart (va_wsS RX5 111 yX5_isDigit wsX5_isDigit) := goodIn_app (goodIn_of _ (by decide +kernel)) ggX5_readPart_X5_isDigit
set_option maxRecDepth 20000 in
theorem ggX5_readPart_X5_readNumber : GoodIn wsX5_readPart wsX5_readNumber := goodIn_r _ [21, 1, 9, 22, 23, 24, 25, 11, 12, 13, 7, 14, 10, 15, 16, 17, 106, 107, 108, 109, 110, 111, 112, 113, 114, 115, 116, 117, 118, 119] (by decide +kernel) (by decide +kernel)
set_option maxRecDepth 20000 in
theorem gX5_readPart_X5_readNumber : GoodIn wsX5_readPart (wsV RX5 115 RX5 yX5_readNumber wsX5_readNumber) := goodIn_app (goodIn_of _ (by decide +kernel)) ggX5_readPart_X5_readNumber
set_option maxRecDepth 20000 in
theorem ggX5_readPart_X5_nameHere : GoodIn wsX5_readPart wsX5_nameHere := goodIn_r _ [29, 30, 31, 32, 33, 7, 34, 1, 9, 10, 35, 36, 37, 38, 39, 40, 41, 42, 43, 44, 45, 46, 47, 48, 49, 50, 51, 52, 53, 54, 55, 56, 57, 58, 59, 60, 61, 62, 63, 64, 65, 66, 67, 68, 69, 70, 71, 72, 73, 74, 75, 76, 77, 78, 79, 80, 81, 82, 83, 84, 85, 86, 87, 106, 107, 108, 109, 110, 111, 112, 113, 114, 115, 116, 117, 118, 119] (by decide +kernel) (by decide +kernel)
set_option maxRecDepth 20000 in
theorem gX5_readPart_X5_nameHere : GoodIn wsX5_readPart (wsV RX5 118 RX5 yX5_nameHere wsX5_nameHere) := goodIn_app (goodIn_of _ (by decide +kernel)) ggX5_readPart_X5_nameHere
set_option maxRecDepth 20000 in
theorem ggX5_readPart_X5_fail : GoodIn wsX5_readPart wsX5_fail := goodIn_r _ [91, 3, 92, 106, 107, 108, 109, 110, 111, 112, 113, 114, 115, 116, 117, 118, 119] (by decide +kernel) (by decide +kernel)
set_option maxRecDepth 20000 in
theorem gX5_readPart_X5_fail : GoodIn wsX5_readPart (wsV RX5 92 RX5 yX5_fail wsX5_fail) := goodIn_app (goodIn_of _ (by decide +kernel)) ggX5_readPart_X5_fail
set_option maxRecDepth 20000 in
theorem ggX5_readPart_X5_readTimes : GoodIn wsX5_readPart wsX5_readTimes := goodIn_r _ [96, 1, 4, 5, 6, 7, 8, 9, 10, 11, 12, 13, 14, 106, 107, 108, 109, 110, 111, 112, 113, 114, 115, 116, 117, 118, 119] (by decide +kernel) (by decide +kernel)
set_option maxRecDepth 20000 in
theorem gX5_readPart_X5_readTimes : GoodIn wsX5_readPart (wsV RX5 122 RX5 yX5_readTimes wsX5_readTimes) := goodIn_app (goodIn_of _ (by decide +kernel)) ggX5_readPart_X5_readTimes
set_option maxRecDepth 20000 in
theorem ggX5_readPart_X5_keepPart : GoodIn wsX5_readPart wsX5_keepPart := goodIn_r _ [100, 101, 2, 102, 103, 1, 30, 104, 105, 39, 40, 41, 42, 43, 44, 45, 46, 47, 48, 49, 50, 4, 5, 6, 7, 8, 9, 10, 11, 12, 13, 14, 106, 107, 108, 109, 110, 111, 112, 113, 114, 115, 116, 117, 118, 119] (by decide +kernel) (by decide +kernel)
set_option maxRecDepth 20000 in
theorem gX5_readPart_X5_keepPart : GoodIn wsX5_readPart (wsV RX5 125 RX5 yX5_keepPart wsX5_keepPart) := goodIn_app (goodIn_of _ (by decide +kernel)) ggX5_readPart_X5_keepPart
theorem dX5_readPart_0 : decode cX5_readPart 0 = .ok (.aload_n 0, 1) := by decide +kernel
theorem dX5_readPart_1 : decode cX5_readPart 1 = .ok (.invokevirtual 78, 3) := by decide +kernel
theorem dX5_readPart_4 : decode cX5_readPart 4 = .ok (.aload_n 0, 1) := by decide +kernel
theorem dX5_readPart_5 : decode cX5_readPart 5 = .ok (.getfield 22, 3) := by decide +kernel
theorem dX5_readPart_8 : decode cX5_readPart 8 = .ok (.istore_n 3, 1) := by decide +kernel
theorem dX5_readPart_9 : decode cX5_readPart 9 = .ok (.aload_n 0, 1) := by decide +kernel
theorem dX5_readPart_10 : decode cX5_readPart 10 = .ok (.invokevirtual 96, 3) := by decide +kernel
theorem dX5_readPart_13 : decode cX5_readPart 13 = .ok (.invokestatic 111, 3) := by decide +kernel
theorem dX5_readPart_16 : decode cX5_readPart 16 = .ok (.istore 4, 2) := by decide +kernel
theorem dX5_readPart_18 : decode cX5_readPart 18 = .ok (.iload 4, 2) := by decide +kernel
theorem dX5_readPart_20 : decode cX5_readPart 20 = .ok (.ifCond .eq 10, 3) := by decide +kernel
theorem dX5_readPart_23 : decode cX5_readPart 23 = .ok (.aload_n 0, 1) := by decide +kernel
theorem dX5_readPart_24 : decode cX5_readPart 24 = .ok (.invokevirtual 115, 3) := by decide +kernel
theorem dX5_readPart_27 : decode cX5_readPart 27 = .ok (.goto 4, 3) := by decide +kernel
theorem dX5_readPart_30 : decode cX5_readPart 30 = .ok (.iconst 1, 1) := by decide +kernel
theorem dX5_readPart_31 : decode cX5_readPart 31 = .ok (.istore 5, 2) := by decide +kernel
theorem dX5_readPart_33 : decode cX5_readPart 33 = .ok (.iload 4, 2) := by decide +kernel
theorem dX5_readPart_35 : decode cX5_readPart 35 = .ok (.ifCond .eq 7, 3) := by decide +kernel
theorem dX5_readPart_38 : decode cX5_readPart 38 = .ok (.aconst_null, 1) := by decide +kernel
theorem dX5_readPart_39 : decode cX5_readPart 39 = .ok (.goto 7, 3) := by decide +kernel
theorem dX5_readPart_42 : decode cX5_readPart 42 = .ok (.aload_n 0, 1) := by decide +kernel
theorem dX5_readPart_43 : decode cX5_readPart 43 = .ok (.invokevirtual 118, 3) := by decide +kernel
theorem dX5_readPart_46 : decode cX5_readPart 46 = .ok (.astore 6, 2) := by decide +kernel
theorem dX5_readPart_48 : decode cX5_readPart 48 = .ok (.iload 5, 2) := by decide +kernel
theorem dX5_readPart_50 : decode cX5_readPart 50 = .ok (.sipush 9999, 3) := by decide +kernel
theorem dX5_readPart_53 : decode cX5_readPart 53 = .ok (.if_icmp .le 12, 3) := by decide +kernel
theorem dX5_readPart_56 : decode cX5_readPart 56 = .ok (.aload_n 0, 1) := by decide +kernel
theorem dX5_readPart_57 : decode cX5_readPart 57 = .ok (.iconst 2, 1) := by decide +kernel
theorem dX5_readPart_58 : decode cX5_readPart 58 = .ok (.iload_n 3, 1) := by decide +kernel
theorem dX5_readPart_59 : decode cX5_readPart 59 = .ok (.invokevirtual 92, 3) := by decide +kernel
theorem dX5_readPart_62 : decode cX5_readPart 62 = .ok (.goto 78, 3) := by decide +kernel
theorem dX5_readPart_65 : decode cX5_readPart 65 = .ok (.iload 4, 2) := by decide +kernel
theorem dX5_readPart_67 : decode cX5_readPart 67 = .ok (.ifCond .ne 17, 3) := by decide +kernel
theorem dX5_readPart_70 : decode cX5_readPart 70 = .ok (.aload 6, 2) := by decide +kernel
theorem dX5_readPart_72 : decode cX5_readPart 72 = .ok (.ifnonnull 12, 3) := by decide +kernel
theorem dX5_readPart_75 : decode cX5_readPart 75 = .ok (.aload_n 0, 1) := by decide +kernel
theorem dX5_readPart_76 : decode cX5_readPart 76 = .ok (.iconst 1, 1) := by decide +kernel
theorem dX5_readPart_77 : decode cX5_readPart 77 = .ok (.iload_n 3, 1) := by decide +kernel
theorem dX5_readPart_78 : decode cX5_readPart 78 = .ok (.invokevirtual 92, 3) := by decide +kernel
theorem dX5_readPart_81 : decode cX5_readPart 81 = .ok (.goto 59, 3) := by decide +kernel
theorem dX5_readPart_84 : decode cX5_readPart 84 = .ok (.iload_n 2, 1) := by decide +kernel
theorem dX5_readPart_85 : decode cX5_readPart 85 = .ok (.bipush 8, 2) := by decide +kernel
theorem dX5_readPart_87 : decode cX5_readPart 87 = .ok (.if_icmp .ge 12, 3) := by decide +kernel
theorem dX5_readPart_90 : decode cX5_readPart 90 = .ok (.aload_n 0, 1) := by decide +kernel
theorem dX5_readPart_91 : decode cX5_readPart 91 = .ok (.getfield 41, 3) := by decide +kernel
theorem dX5_readPart_94 : decode cX5_readPart 94 = .ok (.bipush 64, 2) := by decide +kernel
theorem dX5_readPart_96 : decode cX5_readPart 96 = .ok (.if_icmp .lt 12, 3) := by decide +kernel
theorem dX5_readPart_99 : decode cX5_readPart 99 = .ok (.aload_n 0, 1) := by decide +kernel
theorem dX5_readPart_100 : decode cX5_readPart 100 = .ok (.iconst 3, 1) := by decide +kernel
theorem dX5_readPart_101 : decode cX5_readPart 101 = .ok (.iload_n 3, 1) := by decide +kernel
theorem dX5_readPart_102 : decode cX5_readPart 102 = .ok (.invokevirtual 92, 3) := by decide +kernel
theorem dX5_readPart_105 : decode cX5_readPart 105 = .ok (.goto 35, 3) := by decide +kernel
theorem dX5_readPart_108 : decode cX5_readPart 108 = .ok (.iload 4, 2) := by decide +kernel
theorem dX5_readPart_110 : decode cX5_readPart 110 = .ok (.ifCond .eq 30, 3) := by decide +kernel
theorem dX5_readPart_113 : decode cX5_readPart 113 = .ok (.aload_n 0, 1) := by decide +kernel
theorem dX5_readPart_114 : decode cX5_readPart 114 = .ok (.invokevirtual 122, 3) := by decide +kernel
theorem dX5_readPart_117 : decode cX5_readPart 117 = .ok (.ifCond .eq 23, 3) := by decide +kernel
theorem dX5_readPart_120 : decode cX5_readPart 120 = .ok (.aload_n 0, 1) := by decide +kernel
theorem dX5_readPart_121 : decode cX5_readPart 121 = .ok (.invokevirtual 118, 3) := by decide +kernel
theorem dX5_readPart_124 : decode cX5_readPart 124 = .ok (.astore 6, 2) := by decide +kernel
theorem dX5_readPart_126 : decode cX5_readPart 126 = .ok (.aload 6, 2) := by decide +kernel
theorem dX5_readPart_128 : decode cX5_readPart 128 = .ok (.ifnonnull 12, 3) := by decide +kernel
theorem dX5_readPart_131 : decode cX5_readPart 131 = .ok (.aload_n 0, 1) := by decide +kernel
theorem dX5_readPart_132 : decode cX5_readPart 132 = .ok (.iconst 1, 1) := by decide +kernel
theorem dX5_readPart_133 : decode cX5_readPart 133 = .ok (.aload_n 0, 1) := by decide +kernel
theorem dX5_readPart_134 : decode cX5_readPart 134 = .ok (.getfield 22, 3) := by decide +kernel
theorem dX5_readPart_137 : decode cX5_readPart 137 = .ok (.invokevirtual 92, 3) := by decide +kernel
theorem dX5_readPart_140 : decode cX5_readPart 140 = .ok (.aload_n 0, 1) := by decide +kernel
theorem dX5_readPart_141 : decode cX5_readPart 141 = .ok (.getfield 25, 3) := by decide +kernel
theorem dX5_readPart_144 : decode cX5_readPart 144 = .ok (.ifCond .ne 13, 3) := by decide +kernel
theorem dX5_readPart_147 : decode cX5_readPart 147 = .ok (.aload_n 0, 1) := by decide +kernel
theorem dX5_readPart_148 : decode cX5_readPart 148 = .ok (.iload_n 1, 1) := by decide +kernel
theorem dX5_readPart_149 : decode cX5_readPart 149 = .ok (.iload 5, 2) := by decide +kernel
theorem dX5_readPart_151 : decode cX5_readPart 151 = .ok (.imul, 1) := by decide +kernel
theorem dX5_readPart_152 : decode cX5_readPart 152 = .ok (.aload 6, 2) := by decide +kernel
theorem dX5_readPart_154 : decode cX5_readPart 154 = .ok (.invokevirtual 125, 3) := by decide +kernel
theorem dX5_readPart_157 : decode cX5_readPart 157 = .ok (.return_, 1) := by decide +kernel
set_option maxHeartbeats 4000000 in
set_option maxRecDepth 100000 in
theorem k_X5_readPart (l : Launch) (D : va_G) (cy : Nat → ClassId) {L : List Nat} {τ : Nat → Ro} {E : Ec} (hI : Inv TB cy L τ E) {G : Sg} {a0 : Nat} (ha0 : a0 ∈ L) (ta0 : τ a0 = (7, 0)) (a1 : Int32) (a2 : Int32) {qe : Nat} (hqe : qe ∈ L) (tqe : τ qe = (33, 0)) {qs : Nat} (hqs : qs ∈ L) (tqs : τ qs = (36, 0)) (hR : RdW E a0 qe qs) : CtV1 G l yX5_readPart wsX5_readPart { frames := 7, cells := 0, slots := 0, locals := 151 } D TB cy L τ E [.ref a0, .int a1, .int a2] (inW [(7, 0), (34, 0), (35, 0), (36, 0)]) (fun E' => (∀ k : Nat, k ∉ ([3, 4, 5, 7, 9] : List Nat) → fi E' a0 k = fi E a0 k) ∧ RdW E' a0 qe qs) := by
  intro sz
  refine sta1 (cc := cX5_readPart) (maxL := 7) hI (by decide) rfl (Nat.le_of_ble_eq_true rfl) (fun p e s m args below meth c ls hsz Z SZ S0 hl => ?_)
  have hx := Z.1.1
  have hb := Z.1.2.1
  have hts := Z.1.2.2.2.2
  have F0_ : Fr L τ (inW [(7, 0), (34, 0), (35, 0), (36, 0)]) E E := Fr.refl
  have hl : lv_has ls 7 [(0, .ref a0), (1, .int a1), (2, .int a2)] := hl
  generalize hQ : MQ below _ args s 0 0 _ = QQ
  have J140 : ∀ (x5_140 : Int32) (x6_140 : Option Nat) (E_140 : Ec) (H_140 : Heap) (k_140 : List Loc) (l_140 : Array Slot), Now D TB cy (va_A (va_pl L E) sz) s L τ E_140 H_140 k_140 → Fr L τ (inW [(7, 0), (34, 0), (35, 0), (36, 0)]) E E_140 → (∀ y : Nat, x6_140 = some y → ∃ i : Nat, i < 8 ∧ y = G.2.2.1 i ∧ (fi E_140 a0 3).toInt + ((lenS.getD i 0 : Nat) : Int) ≤ 120) → ((fi E_140 a0 4).toInt = 0 → (fi E_140 a0 9).toInt ≤ 63) → (RdW E_140 a0 qe qs) → (∀ k : Nat, k ∉ ([3, 4, 5, 7, 9] : List Nat) → fi E_140 a0 k = fi E a0 k) → lv_has l_140 7 [(0, .ref a0), (1, .int a1), (5, .int x5_140), (6, va_rf x6_140)] → W p l e { frames := 7, cells := 0, slots := 0, locals := 151 } s m args below meth c H_140 k_140 0 0 QQ (F0 m 140 l_140 []) := by
    intro x5_140 x6_140 E_140 H_140 k_140 l_140 S_140 F_140 z1 z2 z3 z4 hl_140
    cases x6_140 with
    | none =>
      have hl5 : lv_has l_140 7 [(0, .ref a0), (1, .int a1), (5, .int x5_140), (6, .null)] := hl_140
      refine lv_aload_n hx hb dX5_readPart_140 rfl (lv_at hl5 0 rfl) ?_
      refine tr_geti Z.1 Z.2.2.2.1 S_140.1 S_140.2 ha0 ta0 rfl rfl (fun _ h => List.mem_cons_of_mem _ (List.mem_append_right _ h)) 4 (by decide) rfl (hts _ (List.mem_of_getElem? (i := 3) rfl)) dX5_readPart_141 (fun v6 ev6 lv6 uv6 => ?_)
      refine lv_if_ne (tgt := 157) hx hb dX5_readPart_144 (by decide) (fun c7 => ?_) (fun c7 => ?_)
      · skip
        have tc7 := nu_ne c7
        have uc7 : (0 : Int32).toInt = 0 := rfl
        rw [← hQ]
        exact en_v Z S_140 F_140 ⟨(fun k hk => (z4 k hk)), z3⟩ dX5_readPart_157
      · skip
        have tc7 := nu_eq c7
        have uc7 : (0 : Int32).toInt = 0 := rfl
        refine lv_aload_n hx hb dX5_readPart_147 rfl (lv_at hl5 0 rfl) ?_
        refine lv_iload_n hx hb dX5_readPart_148 rfl (lv_at hl5 1 rfl) ?_
        refine lv_iload hx hb dX5_readPart_149 (lv_at hl5 2 rfl) ?_
        refine lv_imul hx hb dX5_readPart_151 ?_
        refine lv_topi (fun v8 ev8 => ?_)
        refine lv_aloadN hx hb dX5_readPart_152 (lv_at hl5 3 rfl) ?_
        refine tc_vv Z.1 Z.2.2.2.1 Z.2.2.2.2.1 Z.2.2.2.2.2 S_140.1 S_140.2 ha0 ta0 rfl rfl (k_X5_keepPart_vnull l D cy S_140.2 ha0 ta0 v8 hqe tqe hqs tqs (by have q := z2 (by rw [ev6]; omega); omega) z3) (cwV 2 hts gX5_readPart_X5_keepPart rfl rfl rfl (by decide +kernel) ⟨Nat.le_of_ble_eq_true rfl, Nat.le_of_ble_eq_true rfl⟩) rfl hl5.1 rfl (Nat.le_of_ble_eq_true rfl) dX5_readPart_154 ⟨Nat.zero_le _, Nat.zero_le _⟩ (fun E9 H10 k11 W9 I9 G9 p9 => ?_)
        obtain ⟨p9_0, p9_1⟩ := p9
        have S9 : Now D TB cy (va_A (va_pl L E) sz) s L τ E9 H10 k11 := ⟨W9, I9⟩
        have F9 : Fr L τ (inW [(7, 0), (34, 0), (35, 0), (36, 0)]) E E9 := F_140.trans (G9.mono (inW_mono (by decide)))
        rw [← hQ]
        exact en_v Z S9 F9 ⟨(fun k hk => ((p9_0 k (fw_sub (by decide) hk)).trans (z4 k hk))), p9_1⟩ dX5_readPart_157
    | some q13 =>
      obtain ⟨jq13, hq13, rfl, wq13⟩ := z1 q13 rfl
      have hl14 : lv_has l_140 7 [(0, .ref a0), (1, .int a1), (5, .int x5_140), (6, .ref (G.2.2.1 jq13))] := hl_140
      refine lv_aload_n hx hb dX5_readPart_140 rfl (lv_at hl14 0 rfl) ?_
      refine tr_geti Z.1 Z.2.2.2.1 S_140.1 S_140.2 ha0 ta0 rfl rfl (fun _ h => List.mem_cons_of_mem _ (List.mem_append_right _ h)) 4 (by decide) rfl (hts _ (List.mem_of_getElem? (i := 3) rfl)) dX5_readPart_141 (fun v15 ev15 lv15 uv15 => ?_)
      refine lv_if_ne (tgt := 157) hx hb dX5_readPart_144 (by decide) (fun c16 => ?_) (fun c16 => ?_)
      · skip
        have tc16 := nu_ne c16
        have uc16 : (0 : Int32).toInt = 0 := rfl
        rw [← hQ]
        exact en_v Z S_140 F_140 ⟨(fun k hk => (z4 k hk)), z3⟩ dX5_readPart_157
      · skip
        have tc16 := nu_eq c16
        have uc16 : (0 : Int32).toInt = 0 := rfl
        refine lv_aload_n hx hb dX5_readPart_147 rfl (lv_at hl14 0 rfl) ?_
        refine lv_iload_n hx hb dX5_readPart_148 rfl (lv_at hl14 1 rfl) ?_
        refine lv_iload hx hb dX5_readPart_149 (lv_at hl14 2 rfl) ?_
        refine lv_imul hx hb dX5_readPart_151 ?_
        refine lv_topi (fun v17 ev17 => ?_)
        refine lv_aload hx hb dX5_readPart_152 (lv_at hl14 3 rfl) ?_
        refine tc1_vv Z.1 Z.2.2.2.1 Z.2.2.2.2.1 Z.2.2.2.2.2 SZ S_140.1 S_140.2 ha0 ta0 rfl rfl (k_X5_keepPart_vN l D cy S_140.2 ha0 ta0 v17 hq13 hqe tqe hqs tqs (by have q := z2 (by rw [ev15]; omega); omega) wq13 z3) (cwV 2 hts gX5_readPart_X5_keepPart rfl rfl rfl (by decide +kernel) ⟨Nat.le_of_ble_eq_true rfl, Nat.le_of_ble_eq_true rfl⟩) rfl hl14.1 rfl (Nat.le_of_ble_eq_true rfl) dX5_readPart_154 ⟨Nat.zero_le _, Nat.zero_le _⟩ (fun E18 H19 k20 W18 I18 G18 p18 => ?_)
        obtain ⟨p18_0, p18_1⟩ := p18
        have S18 : Now D TB cy (va_A (va_pl L E) sz) s L τ E18 H19 k20 := ⟨W18, I18⟩
        have F18 : Fr L τ (inW [(7, 0), (34, 0), (35, 0), (36, 0)]) E E18 := F_140.trans (G18.mono (inW_mono (by decide)))
        rw [← hQ]
        exact en_v Z S18 F18 ⟨(fun k hk => ((p18_0 k (fw_sub (by decide) hk)).trans (z4 k hk))), p18_1⟩ dX5_readPart_157
  have J99 : ∀ (x3_99 : Int32) (x5_99 : Int32) (x6_99 : Option Nat) (E_99 : Ec) (H_99 : Heap) (k_99 : List Loc) (l_99 : Array Slot), Now D TB cy (va_A (va_pl L E) sz) s L τ E_99 H_99 k_99 → Fr L τ (inW [(7, 0), (34, 0), (35, 0), (36, 0)]) E E_99 → (0 ≤ x3_99.toInt) → (x3_99.toInt ≤ 120) → (x5_99.toInt ≤ 9999) → (∀ y : Nat, x6_99 = some y → ∃ i : Nat, i < 8 ∧ y = G.2.2.1 i ∧ (fi E_99 a0 3).toInt + ((lenS.getD i 0 : Nat) : Int) ≤ 120) → (RdW E_99 a0 qe qs) → (∀ k : Nat, k ∉ ([3, 4, 5, 7, 9] : List Nat) → fi E_99 a0 k = fi E a0 k) → (0 ≤ (fi E_99 a0 9).toInt ∧ (fi E_99 a0 9).toInt ≤ 64) → (-2147483648 ≤ (fi E_99 a0 4).toInt ∧ (fi E_99 a0 4).toInt ≤ 2147483647) → lv_has l_99 7 [(0, .ref a0), (1, .int a1), (3, .int x3_99), (5, .int x5_99), (6, va_rf x6_99)] → W p l e { frames := 7, cells := 0, slots := 0, locals := 151 } s m args below meth c H_99 k_99 0 0 QQ (F0 m 99 l_99 []) := by
    intro x3_99 x5_99 x6_99 E_99 H_99 k_99 l_99 S_99 F_99 z22 z23 z24 z25 z26 z27 z28 z29 hl_99
    cases x6_99 with
    | none =>
      have hl30 : lv_has l_99 7 [(0, .ref a0), (1, .int a1), (3, .int x3_99), (5, .int x5_99), (6, .null)] := hl_99
      refine lv_aload_n hx hb dX5_readPart_99 rfl (lv_at hl30 0 rfl) ?_
      obtain ⟨v31, ev31, tv31⟩ : ∃ v : Int32, Int32.ofInt (3) = v ∧ v.toInt = 3 := ⟨_, rfl, by decide +kernel⟩
      refine lv_iconst hx hb dX5_readPart_100 ev31 ?_
      refine lv_iload_n hx hb dX5_readPart_101 rfl (lv_at hl30 2 rfl) ?_
      refine tc_vv Z.1 Z.2.2.2.1 Z.2.2.2.2.1 Z.2.2.2.2.2 S_99.1 S_99.2 ha0 ta0 rfl rfl (k_X5_fail l D cy S_99.2 ha0 ta0 v31 (by omega) (by omega) x3_99) (cwV 2 hts gX5_readPart_X5_fail rfl rfl rfl (by decide +kernel) ⟨Nat.le_of_ble_eq_true rfl, Nat.le_of_ble_eq_true rfl⟩) rfl hl30.1 rfl (Nat.le_of_ble_eq_true rfl) dX5_readPart_102 ⟨Nat.zero_le _, Nat.zero_le _⟩ (fun E32 H33 k34 W32 I32 G32 p32 => ?_)
      obtain ⟨p32_0, p32_1⟩ := p32
      have S32 : Now D TB cy (va_A (va_pl L E) sz) s L τ E32 H33 k34 := ⟨W32, I32⟩
      have F32 : Fr L τ (inW [(7, 0), (34, 0), (35, 0), (36, 0)]) E E32 := F_99.trans (G32.mono (inW_mono (by decide)))
      have kz32_4 := fi_rng (k := 4) S32.2 ha0 ta0 rfl rfl
      refine lv_goto (tgt := 140) hx hb dX5_readPart_105 (by decide) ?_
      exact J140 x5_99 none E32 H33 k34 l_99 S32 F32 (fun _ h => nomatch h) (fun h => absurd h (by omega)) (RdW.same z26 (G32 qe hqe (by rw [tqe]; rfl)) (G32 qs hqs (by rw [tqs]; rfl)) (p32_1 7 (by decide)) (p32_1 8 (by decide)) (p32_1 9 (by decide))) (fun k hk => ((p32_1 k (fw_sub (by decide) hk)).trans (z27 k hk))) (lv_sub hl30 [0, 1, 3, 4] rfl)
    | some q36 =>
      obtain ⟨jq36, hq36, rfl, wq36⟩ := z25 q36 rfl
      have hl37 : lv_has l_99 7 [(0, .ref a0), (1, .int a1), (3, .int x3_99), (5, .int x5_99), (6, .ref (G.2.2.1 jq36))] := hl_99
      refine lv_aload_n hx hb dX5_readPart_99 rfl (lv_at hl37 0 rfl) ?_
      obtain ⟨v38, ev38, tv38⟩ : ∃ v : Int32, Int32.ofInt (3) = v ∧ v.toInt = 3 := ⟨_, rfl, by decide +kernel⟩
      refine lv_iconst hx hb dX5_readPart_100 ev38 ?_
      refine lv_iload_n hx hb dX5_readPart_101 rfl (lv_at hl37 2 rfl) ?_
      refine tc_vv Z.1 Z.2.2.2.1 Z.2.2.2.2.1 Z.2.2.2.2.2 S_99.1 S_99.2 ha0 ta0 rfl rfl (k_X5_fail l D cy S_99.2 ha0 ta0 v38 (by omega) (by omega) x3_99) (cwV 2 hts gX5_readPart_X5_fail rfl rfl rfl (by decide +kernel) ⟨Nat.le_of_ble_eq_true rfl, Nat.le_of_ble_eq_true rfl⟩) rfl hl37.1 rfl (Nat.le_of_ble_eq_true rfl) dX5_readPart_102 ⟨Nat.zero_le _, Nat.zero_le _⟩ (fun E39 H40 k41 W39 I39 G39 p39 => ?_)
      obtain ⟨p39_0, p39_1⟩ := p39
      have S39 : Now D TB cy (va_A (va_pl L E) sz) s L τ E39 H40 k41 := ⟨W39, I39⟩
      have F39 : Fr L τ (inW [(7, 0), (34, 0), (35, 0), (36, 0)]) E E39 := F_99.trans (G39.mono (inW_mono (by decide)))
      have kz39_4 := fi_rng (k := 4) S39.2 ha0 ta0 rfl rfl
      refine lv_goto (tgt := 140) hx hb dX5_readPart_105 (by decide) ?_
      exact J140 x5_99 (some (G.2.2.1 jq36)) E39 H40 k41 l_99 S39 F39 (fun y h => by cases h; exact ⟨_, hq36, rfl, (by rw [(p39_1 3 (by decide))]; exact wq36)⟩) (fun h => absurd h (by omega)) (RdW.same z26 (G39 qe hqe (by rw [tqe]; rfl)) (G39 qs hqs (by rw [tqs]; rfl)) (p39_1 7 (by decide)) (p39_1 8 (by decide)) (p39_1 9 (by decide))) (fun k hk => ((p39_1 k (fw_sub (by decide) hk)).trans (z27 k hk))) (lv_sub hl37 [0, 1, 3, 4] rfl)
  have J84 : ∀ (x3_84 : Int32) (x4_84 : Int32) (x5_84 : Int32) (x6_84 : Option Nat) (E_84 : Ec) (H_84 : Heap) (k_84 : List Loc) (l_84 : Array Slot), Now D TB cy (va_A (va_pl L E) sz) s L τ E_84 H_84 k_84 → Fr L τ (inW [(7, 0), (34, 0), (35, 0), (36, 0)]) E E_84 → (0 ≤ x3_84.toInt) → (x3_84.toInt ≤ 120) → (0 ≤ x4_84.toInt) → (x4_84.toInt ≤ 1) → (x5_84.toInt ≤ 9999) → (∀ y : Nat, x6_84 = some y → ∃ i : Nat, i < 8 ∧ y = G.2.2.1 i ∧ (fi E_84 a0 3).toInt + ((lenS.getD i 0 : Nat) : Int) ≤ 120) → ((x4_84.toInt = 1 → x6_84 = none)) → (RdW E_84 a0 qe qs) → (∀ k : Nat, k ∉ ([3, 4, 5, 7, 9] : List Nat) → fi E_84 a0 k = fi E a0 k) → (0 ≤ (fi E_84 a0 9).toInt ∧ (fi E_84 a0 9).toInt ≤ 64) → (-2147483648 ≤ (fi E_84 a0 4).toInt ∧ (fi E_84 a0 4).toInt ≤ 2147483647) → lv_has l_84 7 [(0, .ref a0), (1, .int a1), (2, .int a2), (3, .int x3_84), (4, .int x4_84), (5, .int x5_84), (6, va_rf x6_84)] → W p l e { frames := 7, cells := 0, slots := 0, locals := 151 } s m args below meth c H_84 k_84 0 0 QQ (F0 m 84 l_84 []) := by
    intro x3_84 x4_84 x5_84 x6_84 E_84 H_84 k_84 l_84 S_84 F_84 z43 z44 z45 z46 z47 z48 z49 z50 z51 z52 z53 hl_84
    cases x6_84 with
    | none =>
      have hl54 : lv_has l_84 7 [(0, .ref a0), (1, .int a1), (2, .int a2), (3, .int x3_84), (4, .int x4_84), (5, .int x5_84), (6, .null)] := hl_84
      refine lv_iload_n hx hb dX5_readPart_84 rfl (lv_at hl54 2 rfl) ?_
      obtain ⟨v55, ev55, tv55⟩ : ∃ v : Int32, (Int8.ofInt (8)).toInt32 = v ∧ v.toInt = 8 := ⟨_, rfl, by decide +kernel⟩
      refine lv_bipush hx hb dX5_readPart_85 ev55 ?_
      refine lv_icmp_ge (tgt := 99) hx hb dX5_readPart_87 (by decide) (fun c56 => ?_) (fun c56 => ?_)
      · skip
        have tc56 := nu_le c56
        exact J99 x3_84 x5_84 none E_84 H_84 k_84 l_84 S_84 F_84 (by have := fb_rng a1; have := fb_rng a2; have := fb_rng x5_84; omega) (by have := fb_rng a1; have := fb_rng a2; have := fb_rng x5_84; omega) (by have := fb_rng a1; have := fb_rng a2; have := fb_rng x5_84; omega) (fun _ h => nomatch h) z50 (fun k hk => (z51 k hk)) (by have := fb_rng a1; have := fb_rng a2; have := fb_rng x5_84; omega) (by have := fb_rng a1; have := fb_rng a2; have := fb_rng x5_84; omega) (lv_sub hl54 [0, 1, 3, 5, 6] rfl)
      · skip
        have tc56 := nu_nle c56
        refine lv_aload_n hx hb dX5_readPart_90 rfl (lv_at hl54 0 rfl) ?_
        refine tr_geti Z.1 Z.2.2.2.1 S_84.1 S_84.2 ha0 ta0 rfl rfl (fun _ h => List.mem_cons_of_mem _ (List.mem_append_right _ h)) 9 (by decide) rfl (hts _ (List.mem_of_getElem? (i := 2) rfl)) dX5_readPart_91 (fun v57 ev57 lv57 uv57 => ?_)
        have wv57 : v57 = (fi E_84 a0 9) := ev57.symm.trans rfl
        have xv57 : v57.toInt = (fi E_84 a0 9).toInt := by rw [wv57]
        obtain ⟨v58, ev58, tv58⟩ : ∃ v : Int32, (Int8.ofInt (64)).toInt32 = v ∧ v.toInt = 64 := ⟨_, rfl, by decide +kernel⟩
        refine lv_bipush hx hb dX5_readPart_94 ev58 ?_
        refine lv_icmp_lt (tgt := 108) hx hb dX5_readPart_96 (by decide) (fun c59 => ?_) (fun c59 => ?_)
        · skip
          have tc59 := nu_lt c59
          refine lv_iload hx hb dX5_readPart_108 (lv_at hl54 4 rfl) ?_
          refine lv_if_eq (tgt := 140) hx hb dX5_readPart_110 (by decide) (fun c60 => ?_) (fun c60 => ?_)
          · skip
            have tc60 := nu_eq c60
            have uc60 : (0 : Int32).toInt = 0 := rfl
            exact J140 x5_84 none E_84 H_84 k_84 l_84 S_84 F_84 (fun _ h => nomatch h) (fun _ => by rw [ev57]; omega) z50 (fun k hk => (z51 k hk)) (lv_sub hl54 [0, 1, 5, 6] rfl)
          · skip
            have tc60 := nu_ne c60
            have uc60 : (0 : Int32).toInt = 0 := rfl
            refine lv_aload_n hx hb dX5_readPart_113 rfl (lv_at hl54 0 rfl) ?_
            refine tc_vi Z.1 Z.2.2.2.1 Z.2.2.2.2.1 Z.2.2.2.2.2 S_84.1 S_84.2 ha0 ta0 rfl rfl (k_X5_readTimes l D cy S_84.2 ha0 ta0) (cwV 0 hts gX5_readPart_X5_readTimes rfl rfl rfl (by decide +kernel) ⟨Nat.le_of_ble_eq_true rfl, Nat.le_of_ble_eq_true rfl⟩) rfl hl54.1 rfl (Nat.le_of_ble_eq_true rfl) dX5_readPart_114 ⟨Nat.zero_le _, Nat.zero_le _⟩ (fun v64 E61 H62 k63 W61 I61 G61 p61 => ?_)
            obtain ⟨p61_0, p61_1, p61_2⟩ := p61
            have S61 : Now D TB cy (va_A (va_pl L E) sz) s L τ E61 H62 k63 := ⟨W61, I61⟩
            have F61 : Fr L τ (inW [(7, 0), (34, 0), (35, 0), (36, 0)]) E E61 := F_84.trans (G61.mono (inW_mono (by decide)))
            refine lv_if_eq (tgt := 140) hx hb dX5_readPart_117 (by decide) (fun c65 => ?_) (fun c65 => ?_)
            · skip
              have tc65 := nu_eq c65
              have uc65 : (0 : Int32).toInt = 0 := rfl
              exact J140 x5_84 none E61 H62 k63 l_84 S61 F61 (fun _ h => nomatch h) (fun _ => by rw [((p61_2 9 (by decide)).trans ev57)]; omega) (RdW.same z50 (G61 qe hqe (by rw [tqe]; rfl)) (G61 qs hqs (by rw [tqs]; rfl)) (p61_2 7 (by decide)) (p61_2 8 (by decide)) (p61_2 9 (by decide))) (fun k hk => ((p61_2 k (fw_sub (by decide) hk)).trans (z51 k hk))) (lv_sub hl54 [0, 1, 5, 6] rfl)
            · skip
              have tc65 := nu_ne c65
              have uc65 : (0 : Int32).toInt = 0 := rfl
              refine lv_aload_n hx hb dX5_readPart_120 rfl (lv_at hl54 0 rfl) ?_
              refine tc1_vq Z.1 Z.2.2.2.1 Z.2.2.2.2.1 Z.2.2.2.2.2 SZ S61.1 S61.2 ha0 ta0 rfl rfl (k_X5_nameHere l D cy S61.2 ha0 ta0) (cwV 0 hts gX5_readPart_X5_nameHere rfl rfl rfl (by decide +kernel) ⟨Nat.le_of_ble_eq_true rfl, Nat.le_of_ble_eq_true rfl⟩) rfl hl54.1 rfl (Nat.le_of_ble_eq_true rfl) dX5_readPart_121 ⟨Nat.zero_le _, Nat.zero_le _⟩ (fun v69 E66 H67 k68 W66 I66 G66 p66 => ?_)
              obtain ⟨q66, p66_0⟩ := p66
              have q66 := q66.symm
              subst q66
              have S66 : Now D TB cy (va_A (va_pl L E) sz) s L τ E61 H67 k68 := ⟨W66, I66⟩
              cases v69 with
              | none =>
                refine W.eq (g2 := F0 m 124 l_84 [.null]) rfl ?_
                refine lv_astoreN (lv' := [(6, .null), (0, .ref a0), (1, .int a1), (2, .int a2), (3, .int x3_84), (4, .int x4_84), (5, .int x5_84)]) hx hb dX5_readPart_124 hl54 (by decide) rfl (fun l70 hl71 => ?_)
                refine lv_aloadN hx hb dX5_readPart_126 (lv_at hl71 0 rfl) ?_
                refine lv_ifnonnullN hx hb dX5_readPart_128 ?_
                refine lv_aload_n hx hb dX5_readPart_131 rfl (lv_at hl71 1 rfl) ?_
                obtain ⟨v72, ev72, tv72⟩ : ∃ v : Int32, Int32.ofInt (1) = v ∧ v.toInt = 1 := ⟨_, rfl, by decide +kernel⟩
                refine lv_iconst hx hb dX5_readPart_132 ev72 ?_
                refine lv_aload_n hx hb dX5_readPart_133 rfl (lv_at hl71 1 rfl) ?_
                refine tr_geti Z.1 Z.2.2.2.1 S66.1 S66.2 ha0 ta0 rfl rfl (fun _ h => List.mem_cons_of_mem _ (List.mem_append_right _ h)) 3 (by decide) rfl (hts _ (List.mem_of_getElem? (i := 1) rfl)) dX5_readPart_134 (fun v73 ev73 lv73 uv73 => ?_)
                refine tc_vv Z.1 Z.2.2.2.1 Z.2.2.2.2.1 Z.2.2.2.2.2 S66.1 S66.2 ha0 ta0 rfl rfl (k_X5_fail l D cy S66.2 ha0 ta0 v72 (by omega) (by omega) v73) (cwV 2 hts gX5_readPart_X5_fail rfl rfl rfl (by decide +kernel) ⟨Nat.le_of_ble_eq_true rfl, Nat.le_of_ble_eq_true rfl⟩) rfl hl71.1 rfl (Nat.le_of_ble_eq_true rfl) dX5_readPart_137 ⟨Nat.zero_le _, Nat.zero_le _⟩ (fun E74 H75 k76 W74 I74 G74 p74 => ?_)
                obtain ⟨p74_0, p74_1⟩ := p74
                have S74 : Now D TB cy (va_A (va_pl L E) sz) s L τ E74 H75 k76 := ⟨W74, I74⟩
                have F74 : Fr L τ (inW [(7, 0), (34, 0), (35, 0), (36, 0)]) E E74 := F61.trans (G74.mono (inW_mono (by decide)))
                try rw [((p61_2 4 (by decide)).trans rfl)] at p74_0
                have kz74_4 := fi_rng (k := 4) S74.2 ha0 ta0 rfl rfl
                exact J140 x5_84 none E74 H75 k76 l70 S74 F74 (fun _ h => nomatch h) (fun h => absurd h (by omega)) (RdW.same z50 ((G74 qe hqe (by rw [tqe]; rfl)).trans (G61 qe hqe (by rw [tqe]; rfl))) ((G74 qs hqs (by rw [tqs]; rfl)).trans (G61 qs hqs (by rw [tqs]; rfl))) ((p74_1 7 (by decide)).trans (p61_2 7 (by decide))) ((p74_1 8 (by decide)).trans (p61_2 8 (by decide))) ((p74_1 9 (by decide)).trans (p61_2 9 (by decide)))) (fun k hk => ((p74_1 k (fw_sub (by decide) hk)).trans ((p61_2 k (fw_sub (by decide) hk)).trans (z51 k hk)))) (lv_sub hl71 [1, 2, 6, 0] rfl)
              | some q78 =>
                obtain ⟨jq78, hq78, rfl, wq78⟩ := p66_0 q78 rfl
                refine W.eq (g2 := F0 m 124 l_84 [.ref (G.2.2.1 jq78)]) rfl ?_
                refine lv_astore (lv' := [(6, .ref (G.2.2.1 jq78)), (0, .ref a0), (1, .int a1), (2, .int a2), (3, .int x3_84), (4, .int x4_84), (5, .int x5_84)]) hx hb dX5_readPart_124 hl54 (by decide) rfl (fun l79 hl80 => ?_)
                refine lv_aload hx hb dX5_readPart_126 (lv_at hl80 0 rfl) ?_
                refine lv_ifnonnull (tgt := 140) hx hb dX5_readPart_128 (by decide) ?_
                exact J140 x5_84 (some (G.2.2.1 jq78)) E61 H67 k68 l79 S66 F61 (fun y h => by cases h; exact ⟨_, hq78, rfl, wq78⟩) (fun _ => by rw [((p61_2 9 (by decide)).trans ev57)]; omega) (RdW.same z50 (G61 qe hqe (by rw [tqe]; rfl)) (G61 qs hqs (by rw [tqs]; rfl)) (p61_2 7 (by decide)) (p61_2 8 (by decide)) (p61_2 9 (by decide))) (fun k hk => ((p61_2 k (fw_sub (by decide) hk)).trans (z51 k hk))) (lv_sub hl80 [1, 2, 6, 0] rfl)
        · skip
          have tc59 := nu_nlt c59
          exact J99 x3_84 x5_84 none E_84 H_84 k_84 l_84 S_84 F_84 (by have := fb_rng a1; have := fb_rng a2; have := fb_rng x5_84; omega) (by have := fb_rng a1; have := fb_rng a2; have := fb_rng x5_84; omega) (by have := fb_rng a1; have := fb_rng a2; have := fb_rng x5_84; omega) (fun _ h => nomatch h) z50 (fun k hk => (z51 k hk)) (by rw [ev57]; have := fb_rng a1; have := fb_rng a2; have := fb_rng x5_84; omega) (by have := fb_rng a1; have := fb_rng a2; have := fb_rng x5_84; omega) (lv_sub hl54 [0, 1, 3, 5, 6] rfl)
    | some q81 =>
      obtain ⟨jq81, hq81, rfl, wq81⟩ := z48 q81 rfl
      have hl82 : lv_has l_84 7 [(0, .ref a0), (1, .int a1), (2, .int a2), (3, .int x3_84), (4, .int x4_84), (5, .int x5_84), (6, .ref (G.2.2.1 jq81))] := hl_84
      refine lv_iload_n hx hb dX5_readPart_84 rfl (lv_at hl82 2 rfl) ?_
      obtain ⟨v83, ev83, tv83⟩ : ∃ v : Int32, (Int8.ofInt (8)).toInt32 = v ∧ v.toInt = 8 := ⟨_, rfl, by decide +kernel⟩
      refine lv_bipush hx hb dX5_readPart_85 ev83 ?_
      refine lv_icmp_ge (tgt := 99) hx hb dX5_readPart_87 (by decide) (fun c84 => ?_) (fun c84 => ?_)
      · skip
        have tc84 := nu_le c84
        exact J99 x3_84 x5_84 (some (G.2.2.1 jq81)) E_84 H_84 k_84 l_84 S_84 F_84 (by have := fb_rng a1; have := fb_rng a2; have := fb_rng x5_84; omega) (by have := fb_rng a1; have := fb_rng a2; have := fb_rng x5_84; omega) (by have := fb_rng a1; have := fb_rng a2; have := fb_rng x5_84; omega) (fun y h => by cases h; exact ⟨_, hq81, rfl, wq81⟩) z50 (fun k hk => (z51 k hk)) (by have := fb_rng a1; have := fb_rng a2; have := fb_rng x5_84; omega) (by have := fb_rng a1; have := fb_rng a2; have := fb_rng x5_84; omega) (lv_sub hl82 [0, 1, 3, 5, 6] rfl)
      · skip
        have tc84 := nu_nle c84
        refine lv_aload_n hx hb dX5_readPart_90 rfl (lv_at hl82 0 rfl) ?_
        refine tr_geti Z.1 Z.2.2.2.1 S_84.1 S_84.2 ha0 ta0 rfl rfl (fun _ h => List.mem_cons_of_mem _ (List.mem_append_right _ h)) 9 (by decide) rfl (hts _ (List.mem_of_getElem? (i := 2) rfl)) dX5_readPart_91 (fun v85 ev85 lv85 uv85 => ?_)
        have wv85 : v85 = (fi E_84 a0 9) := ev85.symm.trans rfl
        have xv85 : v85.toInt = (fi E_84 a0 9).toInt := by rw [wv85]
        obtain ⟨v86, ev86, tv86⟩ : ∃ v : Int32, (Int8.ofInt (64)).toInt32 = v ∧ v.toInt = 64 := ⟨_, rfl, by decide +kernel⟩
        refine lv_bipush hx hb dX5_readPart_94 ev86 ?_
        refine lv_icmp_lt (tgt := 108) hx hb dX5_readPart_96 (by decide) (fun c87 => ?_) (fun c87 => ?_)
        · skip
          have tc87 := nu_lt c87
          refine lv_iload hx hb dX5_readPart_108 (lv_at hl82 4 rfl) ?_
          refine lv_if_eq (tgt := 140) hx hb dX5_readPart_110 (by decide) (fun c88 => ?_) (fun c88 => ?_)
          · skip
            have tc88 := nu_eq c88
            have uc88 : (0 : Int32).toInt = 0 := rfl
            exact J140 x5_84 (some (G.2.2.1 jq81)) E_84 H_84 k_84 l_84 S_84 F_84 (fun y h => by cases h; exact ⟨_, hq81, rfl, wq81⟩) (fun _ => by rw [ev85]; omega) z50 (fun k hk => (z51 k hk)) (lv_sub hl82 [0, 1, 5, 6] rfl)
          · skip
            have tc88 := nu_ne c88
            have uc88 : (0 : Int32).toInt = 0 := rfl
            exact nomatch (z49 (by omega))
        · skip
          have tc87 := nu_nlt c87
          exact J99 x3_84 x5_84 (some (G.2.2.1 jq81)) E_84 H_84 k_84 l_84 S_84 F_84 (by have := fb_rng a1; have := fb_rng a2; have := fb_rng x5_84; omega) (by have := fb_rng a1; have := fb_rng a2; have := fb_rng x5_84; omega) (by have := fb_rng a1; have := fb_rng a2; have := fb_rng x5_84; omega) (fun y h => by cases h; exact ⟨_, hq81, rfl, wq81⟩) z50 (fun k hk => (z51 k hk)) (by rw [ev85]; have := fb_rng a1; have := fb_rng a2; have := fb_rng x5_84; omega) (by have := fb_rng a1; have := fb_rng a2; have := fb_rng x5_84; omega) (lv_sub hl82 [0, 1, 3, 5, 6] rfl)
  have J31 : ∀ (x3_31 : Int32) (x4_31 : Int32) (y0_31 : Int32) (E_31 : Ec) (H_31 : Heap) (k_31 : List Loc) (l_31 : Array Slot), Now D TB cy (va_A (va_pl L E) sz) s L τ E_31 H_31 k_31 → Fr L τ (inW [(7, 0), (34, 0), (35, 0), (36, 0)]) E E_31 → (0 ≤ x3_31.toInt) → (x3_31.toInt ≤ 120) → (0 ≤ x4_31.toInt) → (x4_31.toInt ≤ 1) → (RdW E_31 a0 qe qs) → (∀ k : Nat, k ∉ ([3, 4, 5, 7, 9] : List Nat) → fi E_31 a0 k = fi E a0 k) → (0 ≤ (fi E_31 a0 9).toInt ∧ (fi E_31 a0 9).toInt ≤ 64) → (-2147483648 ≤ (fi E_31 a0 4).toInt ∧ (fi E_31 a0 4).toInt ≤ 2147483647) → lv_has l_31 7 [(0, .ref a0), (1, .int a1), (2, .int a2), (3, .int x3_31), (4, .int x4_31)] → W p l e { frames := 7, cells := 0, slots := 0, locals := 151 } s m args below meth c H_31 k_31 0 0 QQ (F0 m 31 l_31 [.int y0_31]) := by
    intro x3_31 x4_31 y0_31 E_31 H_31 k_31 l_31 S_31 F_31 z89 z90 z91 z92 z93 z94 z95 z96 hl_31
    refine lv_istore (lv' := [(5, .int y0_31), (0, .ref a0), (1, .int a1), (2, .int a2), (3, .int x3_31), (4, .int x4_31)]) hx hb dX5_readPart_31 hl_31 (by decide) rfl (fun l97 hl98 => ?_)
    refine lv_iload hx hb dX5_readPart_33 (lv_at hl98 5 rfl) ?_
    refine lv_if_eq (tgt := 42) hx hb dX5_readPart_35 (by decide) (fun c99 => ?_) (fun c99 => ?_)
    · skip
      have tc99 := nu_eq c99
      have uc99 : (0 : Int32).toInt = 0 := rfl
      refine lv_aload_n hx hb dX5_readPart_42 rfl (lv_at hl98 1 rfl) ?_
      refine tc1_vq Z.1 Z.2.2.2.1 Z.2.2.2.2.1 Z.2.2.2.2.2 SZ S_31.1 S_31.2 ha0 ta0 rfl rfl (k_X5_nameHere l D cy S_31.2 ha0 ta0) (cwV 0 hts gX5_readPart_X5_nameHere rfl rfl rfl (by decide +kernel) ⟨Nat.le_of_ble_eq_true rfl, Nat.le_of_ble_eq_true rfl⟩) rfl hl98.1 rfl (Nat.le_of_ble_eq_true rfl) dX5_readPart_43 ⟨Nat.zero_le _, Nat.zero_le _⟩ (fun v103 E100 H101 k102 W100 I100 G100 p100 => ?_)
      obtain ⟨q100, p100_0⟩ := p100
      have q100 := q100.symm
      subst q100
      have S100 : Now D TB cy (va_A (va_pl L E) sz) s L τ E_31 H101 k102 := ⟨W100, I100⟩
      cases v103 with
      | none =>
        refine W.eq (g2 := F0 m 46 l97 [.null]) rfl ?_
        refine lv_astoreN (lv' := [(6, .null), (5, .int y0_31), (0, .ref a0), (1, .int a1), (2, .int a2), (3, .int x3_31), (4, .int x4_31)]) hx hb dX5_readPart_46 hl98 (by decide) rfl (fun l104 hl105 => ?_)
        refine lv_iload hx hb dX5_readPart_48 (lv_at hl105 1 rfl) ?_
        obtain ⟨v106, ev106, tv106⟩ : ∃ v : Int32, (Int16.ofInt (9999)).toInt32 = v ∧ v.toInt = 9999 := ⟨_, rfl, by decide +kernel⟩
        refine lv_sipush hx hb dX5_readPart_50 ev106 ?_
        refine lv_icmp_le (tgt := 65) hx hb dX5_readPart_53 (by decide) (fun c107 => ?_) (fun c107 => ?_)
        · skip
          have tc107 := nu_le c107
          refine lv_iload hx hb dX5_readPart_65 (lv_at hl105 6 rfl) ?_
          refine lv_if_ne (tgt := 84) hx hb dX5_readPart_67 (by decide) (fun c108 => ?_) (fun c108 => ?_)
          · skip
            have tc108 := nu_ne c108
            have uc108 : (0 : Int32).toInt = 0 := rfl
            omega
          · skip
            have tc108 := nu_eq c108
            have uc108 : (0 : Int32).toInt = 0 := rfl
            refine lv_aloadN hx hb dX5_readPart_70 (lv_at hl105 0 rfl) ?_
            refine lv_ifnonnullN hx hb dX5_readPart_72 ?_
            refine lv_aload_n hx hb dX5_readPart_75 rfl (lv_at hl105 2 rfl) ?_
            obtain ⟨v109, ev109, tv109⟩ : ∃ v : Int32, Int32.ofInt (1) = v ∧ v.toInt = 1 := ⟨_, rfl, by decide +kernel⟩
            refine lv_iconst hx hb dX5_readPart_76 ev109 ?_
            refine lv_iload_n hx hb dX5_readPart_77 rfl (lv_at hl105 5 rfl) ?_
            refine tc_vv Z.1 Z.2.2.2.1 Z.2.2.2.2.1 Z.2.2.2.2.2 S100.1 S100.2 ha0 ta0 rfl rfl (k_X5_fail l D cy S100.2 ha0 ta0 v109 (by omega) (by omega) x3_31) (cwV 2 hts gX5_readPart_X5_fail rfl rfl rfl (by decide +kernel) ⟨Nat.le_of_ble_eq_true rfl, Nat.le_of_ble_eq_true rfl⟩) rfl hl105.1 rfl (Nat.le_of_ble_eq_true rfl) dX5_readPart_78 ⟨Nat.zero_le _, Nat.zero_le _⟩ (fun E110 H111 k112 W110 I110 G110 p110 => ?_)
            obtain ⟨p110_0, p110_1⟩ := p110
            have S110 : Now D TB cy (va_A (va_pl L E) sz) s L τ E110 H111 k112 := ⟨W110, I110⟩
            have F110 : Fr L τ (inW [(7, 0), (34, 0), (35, 0), (36, 0)]) E E110 := F_31.trans (G110.mono (inW_mono (by decide)))
            have kz110_4 := fi_rng (k := 4) S110.2 ha0 ta0 rfl rfl
            refine lv_goto (tgt := 140) hx hb dX5_readPart_81 (by decide) ?_
            exact J140 y0_31 none E110 H111 k112 l104 S110 F110 (fun _ h => nomatch h) (fun h => absurd h (by omega)) (RdW.same z93 (G110 qe hqe (by rw [tqe]; rfl)) (G110 qs hqs (by rw [tqs]; rfl)) (p110_1 7 (by decide)) (p110_1 8 (by decide)) (p110_1 9 (by decide))) (fun k hk => ((p110_1 k (fw_sub (by decide) hk)).trans (z94 k hk))) (lv_sub hl105 [2, 3, 1, 0] rfl)
        · skip
          have tc107 := nu_nle c107
          refine lv_aload_n hx hb dX5_readPart_56 rfl (lv_at hl105 2 rfl) ?_
          obtain ⟨v114, ev114, tv114⟩ : ∃ v : Int32, Int32.ofInt (2) = v ∧ v.toInt = 2 := ⟨_, rfl, by decide +kernel⟩
          refine lv_iconst hx hb dX5_readPart_57 ev114 ?_
          refine lv_iload_n hx hb dX5_readPart_58 rfl (lv_at hl105 5 rfl) ?_
          refine tc_vv Z.1 Z.2.2.2.1 Z.2.2.2.2.1 Z.2.2.2.2.2 S100.1 S100.2 ha0 ta0 rfl rfl (k_X5_fail l D cy S100.2 ha0 ta0 v114 (by omega) (by omega) x3_31) (cwV 2 hts gX5_readPart_X5_fail rfl rfl rfl (by decide +kernel) ⟨Nat.le_of_ble_eq_true rfl, Nat.le_of_ble_eq_true rfl⟩) rfl hl105.1 rfl (Nat.le_of_ble_eq_true rfl) dX5_readPart_59 ⟨Nat.zero_le _, Nat.zero_le _⟩ (fun E115 H116 k117 W115 I115 G115 p115 => ?_)
          obtain ⟨p115_0, p115_1⟩ := p115
          have S115 : Now D TB cy (va_A (va_pl L E) sz) s L τ E115 H116 k117 := ⟨W115, I115⟩
          have F115 : Fr L τ (inW [(7, 0), (34, 0), (35, 0), (36, 0)]) E E115 := F_31.trans (G115.mono (inW_mono (by decide)))
          have kz115_4 := fi_rng (k := 4) S115.2 ha0 ta0 rfl rfl
          refine lv_goto (tgt := 140) hx hb dX5_readPart_62 (by decide) ?_
          exact J140 y0_31 none E115 H116 k117 l104 S115 F115 (fun _ h => nomatch h) (fun h => absurd h (by omega)) (RdW.same z93 (G115 qe hqe (by rw [tqe]; rfl)) (G115 qs hqs (by rw [tqs]; rfl)) (p115_1 7 (by decide)) (p115_1 8 (by decide)) (p115_1 9 (by decide))) (fun k hk => ((p115_1 k (fw_sub (by decide) hk)).trans (z94 k hk))) (lv_sub hl105 [2, 3, 1, 0] rfl)
      | some q119 =>
        obtain ⟨jq119, hq119, rfl, wq119⟩ := p100_0 q119 rfl
        refine W.eq (g2 := F0 m 46 l97 [.ref (G.2.2.1 jq119)]) rfl ?_
        refine lv_astore (lv' := [(6, .ref (G.2.2.1 jq119)), (5, .int y0_31), (0, .ref a0), (1, .int a1), (2, .int a2), (3, .int x3_31), (4, .int x4_31)]) hx hb dX5_readPart_46 hl98 (by decide) rfl (fun l120 hl121 => ?_)
        refine lv_iload hx hb dX5_readPart_48 (lv_at hl121 1 rfl) ?_
        obtain ⟨v122, ev122, tv122⟩ : ∃ v : Int32, (Int16.ofInt (9999)).toInt32 = v ∧ v.toInt = 9999 := ⟨_, rfl, by decide +kernel⟩
        refine lv_sipush hx hb dX5_readPart_50 ev122 ?_
        refine lv_icmp_le (tgt := 65) hx hb dX5_readPart_53 (by decide) (fun c123 => ?_) (fun c123 => ?_)
        · skip
          have tc123 := nu_le c123
          refine lv_iload hx hb dX5_readPart_65 (lv_at hl121 6 rfl) ?_
          refine lv_if_ne (tgt := 84) hx hb dX5_readPart_67 (by decide) (fun c124 => ?_) (fun c124 => ?_)
          · skip
            have tc124 := nu_ne c124
            have uc124 : (0 : Int32).toInt = 0 := rfl
            omega
          · skip
            have tc124 := nu_eq c124
            have uc124 : (0 : Int32).toInt = 0 := rfl
            refine lv_aload hx hb dX5_readPart_70 (lv_at hl121 0 rfl) ?_
            refine lv_ifnonnull (tgt := 84) hx hb dX5_readPart_72 (by decide) ?_
            exact J84 x3_31 x4_31 y0_31 (some (G.2.2.1 jq119)) E_31 H101 k102 l120 S100 F_31 (by have := fb_rng y0_31; have := fb_rng a1; have := fb_rng a2; omega) (by have := fb_rng y0_31; have := fb_rng a1; have := fb_rng a2; omega) (by have := fb_rng y0_31; have := fb_rng a1; have := fb_rng a2; omega) (by have := fb_rng y0_31; have := fb_rng a1; have := fb_rng a2; omega) (by have := fb_rng y0_31; have := fb_rng a1; have := fb_rng a2; omega) (fun y h => by cases h; exact ⟨_, hq119, rfl, wq119⟩) (fun h => absurd h (by omega)) z93 (fun k hk => (z94 k hk)) (by have := fb_rng y0_31; have := fb_rng a1; have := fb_rng a2; omega) (by have := fb_rng y0_31; have := fb_rng a1; have := fb_rng a2; omega) (lv_sub hl121 [2, 3, 4, 5, 6, 1, 0] rfl)
        · skip
          have tc123 := nu_nle c123
          refine lv_aload_n hx hb dX5_readPart_56 rfl (lv_at hl121 2 rfl) ?_
          obtain ⟨v125, ev125, tv125⟩ : ∃ v : Int32, Int32.ofInt (2) = v ∧ v.toInt = 2 := ⟨_, rfl, by decide +kernel⟩
          refine lv_iconst hx hb dX5_readPart_57 ev125 ?_
          refine lv_iload_n hx hb dX5_readPart_58 rfl (lv_at hl121 5 rfl) ?_
          refine tc_vv Z.1 Z.2.2.2.1 Z.2.2.2.2.1 Z.2.2.2.2.2 S100.1 S100.2 ha0 ta0 rfl rfl (k_X5_fail l D cy S100.2 ha0 ta0 v125 (by omega) (by omega) x3_31) (cwV 2 hts gX5_readPart_X5_fail rfl rfl rfl (by decide +kernel) ⟨Nat.le_of_ble_eq_true rfl, Nat.le_of_ble_eq_true rfl⟩) rfl hl121.1 rfl (Nat.le_of_ble_eq_true rfl) dX5_readPart_59 ⟨Nat.zero_le _, Nat.zero_le _⟩ (fun E126 H127 k128 W126 I126 G126 p126 => ?_)
          obtain ⟨p126_0, p126_1⟩ := p126
          have S126 : Now D TB cy (va_A (va_pl L E) sz) s L τ E126 H127 k128 := ⟨W126, I126⟩
          have F126 : Fr L τ (inW [(7, 0), (34, 0), (35, 0), (36, 0)]) E E126 := F_31.trans (G126.mono (inW_mono (by decide)))
          have kz126_4 := fi_rng (k := 4) S126.2 ha0 ta0 rfl rfl
          refine lv_goto (tgt := 140) hx hb dX5_readPart_62 (by decide) ?_
          exact J140 y0_31 (some (G.2.2.1 jq119)) E126 H127 k128 l120 S126 F126 (fun y h => by cases h; exact ⟨_, hq119, rfl, (by rw [(p126_1 3 (by decide))]; exact wq119)⟩) (fun h => absurd h (by omega)) (RdW.same z93 (G126 qe hqe (by rw [tqe]; rfl)) (G126 qs hqs (by rw [tqs]; rfl)) (p126_1 7 (by decide)) (p126_1 8 (by decide)) (p126_1 9 (by decide))) (fun k hk => ((p126_1 k (fw_sub (by decide) hk)).trans (z94 k hk))) (lv_sub hl121 [2, 3, 1, 0] rfl)
    · skip
      have tc99 := nu_ne c99
      have uc99 : (0 : Int32).toInt = 0 := rfl
      refine lv_null hx hb dX5_readPart_38 ?_
      refine lv_goto (tgt := 46) hx hb dX5_readPart_39 (by decide) ?_
      refine lv_astoreN (lv' := [(6, .null), (5, .int y0_31), (0, .ref a0), (1, .int a1), (2, .int a2), (3, .int x3_31), (4, .int x4_31)]) hx hb dX5_readPart_46 hl98 (by decide) rfl (fun l130 hl131 => ?_)
      refine lv_iload hx hb dX5_readPart_48 (lv_at hl131 1 rfl) ?_
      obtain ⟨v132, ev132, tv132⟩ : ∃ v : Int32, (Int16.ofInt (9999)).toInt32 = v ∧ v.toInt = 9999 := ⟨_, rfl, by decide +kernel⟩
      refine lv_sipush hx hb dX5_readPart_50 ev132 ?_
      refine lv_icmp_le (tgt := 65) hx hb dX5_readPart_53 (by decide) (fun c133 => ?_) (fun c133 => ?_)
      · skip
        have tc133 := nu_le c133
        refine lv_iload hx hb dX5_readPart_65 (lv_at hl131 6 rfl) ?_
        refine lv_if_ne (tgt := 84) hx hb dX5_readPart_67 (by decide) (fun c134 => ?_) (fun c134 => ?_)
        · skip
          have tc134 := nu_ne c134
          have uc134 : (0 : Int32).toInt = 0 := rfl
          exact J84 x3_31 x4_31 y0_31 none E_31 H_31 k_31 l130 S_31 F_31 (by have := fb_rng y0_31; have := fb_rng a1; have := fb_rng a2; omega) (by have := fb_rng y0_31; have := fb_rng a1; have := fb_rng a2; omega) (by have := fb_rng y0_31; have := fb_rng a1; have := fb_rng a2; omega) (by have := fb_rng y0_31; have := fb_rng a1; have := fb_rng a2; omega) (by have := fb_rng y0_31; have := fb_rng a1; have := fb_rng a2; omega) (fun _ h => nomatch h) (fun _ => rfl) z93 (fun k hk => (z94 k hk)) (by have := fb_rng y0_31; have := fb_rng a1; have := fb_rng a2; omega) (by have := fb_rng y0_31; have := fb_rng a1; have := fb_rng a2; omega) (lv_sub hl131 [2, 3, 4, 5, 6, 1, 0] rfl)
        · skip
          have tc134 := nu_eq c134
          have uc134 : (0 : Int32).toInt = 0 := rfl
          omega
      · skip
        have tc133 := nu_nle c133
        refine lv_aload_n hx hb dX5_readPart_56 rfl (lv_at hl131 2 rfl) ?_
        obtain ⟨v135, ev135, tv135⟩ : ∃ v : Int32, Int32.ofInt (2) = v ∧ v.toInt = 2 := ⟨_, rfl, by decide +kernel⟩
        refine lv_iconst hx hb dX5_readPart_57 ev135 ?_
        refine lv_iload_n hx hb dX5_readPart_58 rfl (lv_at hl131 5 rfl) ?_
        refine tc_vv Z.1 Z.2.2.2.1 Z.2.2.2.2.1 Z.2.2.2.2.2 S_31.1 S_31.2 ha0 ta0 rfl rfl (k_X5_fail l D cy S_31.2 ha0 ta0 v135 (by omega) (by omega) x3_31) (cwV 2 hts gX5_readPart_X5_fail rfl rfl rfl (by decide +kernel) ⟨Nat.le_of_ble_eq_true rfl, Nat.le_of_ble_eq_true rfl⟩) rfl hl131.1 rfl (Nat.le_of_ble_eq_true rfl) dX5_readPart_59 ⟨Nat.zero_le _, Nat.zero_le _⟩ (fun E136 H137 k138 W136 I136 G136 p136 => ?_)
        obtain ⟨p136_0, p136_1⟩ := p136
        have S136 : Now D TB cy (va_A (va_pl L E) sz) s L τ E136 H137 k138 := ⟨W136, I136⟩
        have F136 : Fr L τ (inW [(7, 0), (34, 0), (35, 0), (36, 0)]) E E136 := F_31.trans (G136.mono (inW_mono (by decide)))
        have kz136_4 := fi_rng (k := 4) S136.2 ha0 ta0 rfl rfl
        refine lv_goto (tgt := 140) hx hb dX5_readPart_62 (by decide) ?_
        exact J140 y0_31 none E136 H137 k138 l130 S136 F136 (fun _ h => nomatch h) (fun h => absurd h (by omega)) (RdW.same z93 (G136 qe hqe (by rw [tqe]; rfl)) (G136 qs hqs (by rw [tqs]; rfl)) (p136_1 7 (by decide)) (p136_1 8 (by decide)) (p136_1 9 (by decide))) (fun k hk => ((p136_1 k (fw_sub (by decide) hk)).trans (z94 k hk))) (lv_sub hl131 [2, 3, 1, 0] rfl)
  refine lv_aload_n hx hb dX5_readPart_0 rfl (lv_at hl 0 rfl) ?_
  refine tc_vv Z.1 Z.2.2.2.1 Z.2.2.2.2.1 Z.2.2.2.2.2 S0.1 S0.2 ha0 ta0 rfl rfl (k_X5_skipBlanks l D cy S0.2 ha0 ta0) (cwV 0 hts gX5_readPart_X5_skipBlanks rfl rfl rfl (by decide +kernel) ⟨Nat.le_of_ble_eq_true rfl, Nat.le_of_ble_eq_true rfl⟩) rfl hl.1 rfl (Nat.le_of_ble_eq_true rfl) dX5_readPart_1 ⟨Nat.zero_le _, Nat.zero_le _⟩ (fun E140 H141 k142 W140 I140 G140 p140 => ?_)
  have p140_0 := p140
  have S140 : Now D TB cy (va_A (va_pl L E) sz) s L τ E140 H141 k142 := ⟨W140, I140⟩
  have F140 : Fr L τ (inW [(7, 0), (34, 0), (35, 0), (36, 0)]) E E140 := F0_.trans (G140.mono (inW_mono (by decide)))
  refine lv_aload_n hx hb dX5_readPart_4 rfl (lv_at hl 0 rfl) ?_
  refine tr_geti Z.1 Z.2.2.2.1 S140.1 S140.2 ha0 ta0 rfl rfl (fun _ h => List.mem_cons_of_mem _ (List.mem_append_right _ h)) 3 (by decide) rfl (hts _ (List.mem_of_getElem? (i := 1) rfl)) dX5_readPart_5 (fun v144 ev144 lv144 uv144 => ?_)
  refine lv_istore_n (lv' := [(3, .int v144), (0, .ref a0), (1, .int a1), (2, .int a2)]) hx hb dX5_readPart_8 rfl hl (by decide) rfl (fun l145 hl146 => ?_)
  refine lv_aload_n hx hb dX5_readPart_9 rfl (lv_at hl146 1 rfl) ?_
  refine tc_vi Z.1 Z.2.2.2.1 Z.2.2.2.2.1 Z.2.2.2.2.2 S140.1 S140.2 ha0 ta0 rfl rfl (k_X5_peek l D cy S140.2 ha0 ta0) (cwV 0 hts gX5_readPart_X5_peek rfl rfl rfl (by decide +kernel) ⟨Nat.le_of_ble_eq_true rfl, Nat.le_of_ble_eq_true rfl⟩) rfl hl146.1 rfl (Nat.le_of_ble_eq_true rfl) dX5_readPart_10 ⟨Nat.zero_le _, Nat.zero_le _⟩ (fun v150 E147 H148 k149 W147 I147 G147 p147 => ?_)
  obtain ⟨q147, p147_0, p147_1, p147_2⟩ := p147
  have q147 := q147.symm
  subst q147
  have S147 : Now D TB cy (va_A (va_pl L E) sz) s L τ E140 H148 k149 := ⟨W147, I147⟩
  try rw [ev144] at p147_0
  refine tc_si Z.1 Z.2.2.2.1 Z.2.2.2.2.1 Z.2.2.2.2.2 S147.1 (k_X5_isDigit l D cy S147.2 v150) (va_cwS 1 hts gX5_readPart_X5_isDigit rfl rfl rfl (by decide +kernel) ⟨Nat.le_of_ble_eq_true rfl, Nat.le_of_ble_eq_true rfl⟩) rfl hl146.1 rfl (Nat.le_of_ble_eq_true rfl) dX5_readPart_13 ⟨Nat.zero_le _, Nat.zero_le _⟩ (fun v154 E151 H152 k153 W151 I151 G151 p151 => ?_)
  obtain ⟨q151, p151_0, p151_1⟩ := p151
  have q151 := q151.symm
  subst q151
  have S151 : Now D TB cy (va_A (va_pl L E) sz) s L τ E140 H152 k153 := ⟨W151, I151⟩
  refine lv_istore (lv' := [(4, .int v154), (3, .int v144), (0, .ref a0), (1, .int a1), (2, .int a2)]) hx hb dX5_readPart_16 hl146 (by decide) rfl (fun l155 hl156 => ?_)
  refine lv_iload hx hb dX5_readPart_18 (lv_at hl156 0 rfl) ?_
  refine lv_if_eq (tgt := 30) hx hb dX5_readPart_20 (by decide) (fun c157 => ?_) (fun c157 => ?_)
  · skip
    have tc157 := nu_eq c157
    have uc157 : (0 : Int32).toInt = 0 := rfl
    obtain ⟨v158, ev158, tv158⟩ : ∃ v : Int32, Int32.ofInt (1) = v ∧ v.toInt = 1 := ⟨_, rfl, by decide +kernel⟩
    refine lv_iconst hx hb dX5_readPart_30 ev158 ?_
    exact J31 v144 v154 v158 E140 H152 k153 l155 S151 F140 (by have := fb_rng a1; have := fb_rng a2; omega) (by have := fb_rng a1; have := fb_rng a2; omega) (by have := fb_rng a1; have := fb_rng a2; omega) (by have := fb_rng a1; have := fb_rng a2; omega) (RdW.same hR (G140 qe hqe (by rw [tqe]; rfl)) (G140 qs hqs (by rw [tqs]; rfl)) (p140_0 7 (by decide)) (p140_0 8 (by decide)) (p140_0 9 (by decide))) (fun k hk => ((p140_0 k (fw_sub (by decide) hk)).trans ((fun k hk => rfl) k hk))) (fi_rng S151.2 ha0 ta0 rfl rfl) (fi_rng S151.2 ha0 ta0 rfl rfl) (lv_sub hl156 [2, 3, 4, 1, 0] rfl)
  · skip
    have tc157 := nu_ne c157
    have uc157 : (0 : Int32).toInt = 0 := rfl
    refine lv_aload_n hx hb dX5_readPart_23 rfl (lv_at hl156 2 rfl) ?_
    refine tc_vi Z.1 Z.2.2.2.1 Z.2.2.2.2.1 Z.2.2.2.2.2 S151.1 S151.2 ha0 ta0 rfl rfl (k_X5_readNumber l D cy S151.2 ha0 ta0) (cwV 0 hts gX5_readPart_X5_readNumber rfl rfl rfl (by decide +kernel) ⟨Nat.le_of_ble_eq_true rfl, Nat.le_of_ble_eq_true rfl⟩) rfl hl156.1 rfl (Nat.le_of_ble_eq_true rfl) dX5_readPart_24 ⟨Nat.zero_le _, Nat.zero_le _⟩ (fun v162 E159 H160 k161 W159 I159 G159 p159 => ?_)
    have p159_0 := p159
    have S159 : Now D TB cy (va_A (va_pl L E) sz) s L τ E159 H160 k161 := ⟨W159, I159⟩
    have F159 : Fr L τ (inW [(7, 0), (34, 0), (35, 0), (36, 0)]) E E159 := F140.trans (G159.mono (inW_mono (by decide)))
    refine lv_goto (tgt := 31) hx hb dX5_readPart_27 (by decide) ?_
    exact J31 v144 v154 v162 E159 H160 k161 l155 S159 F159 (by have := fb_rng a1; have := fb_rng a2; omega) (by have := fb_rng a1; have := fb_rng a2; omega) (by have := fb_rng a1; have := fb_rng a2; omega) (by have := fb_rng a1; have := fb_rng a2; omega) (RdW.same hR ((G159 qe hqe (by rw [tqe]; rfl)).trans (G140 qe hqe (by rw [tqe]; rfl))) ((G159 qs hqs (by rw [tqs]; rfl)).trans (G140 qs hqs (by rw [tqs]; rfl))) ((p159_0 7 (by decide)).trans (p140_0 7 (by decide))) ((p159_0 8 (by decide)).trans (p140_0 8 (by decide))) ((p159_0 9 (by decide)).trans (p140_0 9 (by decide)))) (fun k hk => ((p159_0 k (fw_sub (by decide) hk)).trans ((p140_0 k (fw_sub (by decide) hk)).trans ((fun k hk => rfl) k hk)))) (fi_rng S159.2 ha0 ta0 rfl rfl) (fi_rng S159.2 ha0 ta0 rfl rfl) (lv_sub hl156 [2, 3, 4, 1, 0] rfl)

set_option maxRecDepth 20000 in
theorem ggX5_readSum_X5_readPart : GoodIn wsX5_readSum wsX5_readPart := goodIn_r _ [7, 2, 8, 1, 9, 10, 11, 6, 12, 13, 14, 15, 16, 17, 18, 19, 20, 21, 22, 23, 24, 25, 26, 27, 28, 29, 30, 31, 32, 33, 34, 35, 36, 37, 38, 39, 40, 41, 42, 43, 44, 45, 46, 47, 48, 49, 50, 51, 52, 53, 54, 55, 56, 57, 58, 59, 60, 61, 62, 63, 64, 65, 66, 67, 68, 69, 70, 71, 72, 73, 74, 75, 76, 77, 78, 79, 80, 81, 82, 83, 84, 85, 86, 87, 88, 89, 90, 91, 92, 93, 94, 95, 96, 97, 98, 99, 100, 101, 102, 103, 104, 105, 106, 107, 108, 109, 110, 111, 112, 113, 114, 115, 116, 117, 118, 119, 120, 121, 122, 123] (by decide +kernel) (by decide +kernel)
set_option maxRecDepth 20000 in
theorem gX5_readSum_X5_readPart : GoodIn wsX5_readSum (wsV RX5 108 RX5 yX5_readPart wsX5_readPart) := goodIn_app (goodIn_of _ (by decide +kernel)) ggX5_readSum_X5_readPart
set_option maxRecDepth 20000 in
theorem ggX5_readSum_X5_skipBlanks : GoodIn wsX5_readSum wsX5_skipBlanks := goodIn_r _ [12, 2, 13, 14, 110, 111, 112, 113, 114, 115, 116, 117, 118, 119, 120, 121, 122, 123] (by decide +kernel) (by decide +kernel)
set_option maxRecDepth 20000 in
theorem gX5_readSum_X5_skipBlanks : GoodIn wsX5_readSum (wsV RX5 78 RX5 yX5_skipBlanks wsX5_skipBlanks) := goodIn_app (goodIn_of _ (by decide +kernel)) ggX5_readSum_X5_skipBlanks
set_option maxRecDepth 20000 in
theorem ggX5_readSum_X5_peek : GoodIn wsX5_readSum wsX5_peek := goodIn_r _ [18, 2, 13, 14, 110, 111, 112, 113, 114, 115, 116, 117, 118, 119, 120, 121, 122, 123] (by decide +kernel) (by decide +kernel)
set_option maxRecDepth 20000 in
theorem gX5_readSum_X5_peek : GoodIn wsX5_readSum (wsV RX5 96 RX5 yX5_peek wsX5_peek) := goodIn_app (goodIn_of _ (by decide +kernel)) ggX5_readSum_X5_peek
theorem dX5_readSum_0 : decode cX5_readSum 0 = .ok (.iload_n 1, 1) := by decide +kernel
theorem dX5_readSum_1 : decode cX5_readSum 1 = .ok (.istore_n 2, 1) := by decide +kernel
theorem dX5_readSum_2 : decode cX5_readSum 2 = .ok (.iconst 1, 1) := by decide +kernel
theorem dX5_readSum_3 : decode cX5_readSum 3 = .ok (.istore_n 3, 1) := by decide +kernel
theorem dX5_readSum_4 : decode cX5_readSum 4 = .ok (.iconst 0, 1) := by decide +kernel
theorem dX5_readSum_5 : decode cX5_readSum 5 = .ok (.istore 4, 2) := by decide +kernel
theorem dX5_readSum_7 : decode cX5_readSum 7 = .ok (.iload 4, 2) := by decide +kernel
theorem dX5_readSum_9 : decode cX5_readSum 9 = .ok (.bipush 8, 2) := by decide +kernel
theorem dX5_readSum_11 : decode cX5_readSum 11 = .ok (.if_icmp .gt 85, 3) := by decide +kernel
theorem dX5_readSum_14 : decode cX5_readSum 14 = .ok (.iload_n 3, 1) := by decide +kernel
theorem dX5_readSum_15 : decode cX5_readSum 15 = .ok (.ifCond .eq 81, 3) := by decide +kernel
theorem dX5_readSum_18 : decode cX5_readSum 18 = .ok (.aload_n 0, 1) := by decide +kernel
theorem dX5_readSum_19 : decode cX5_readSum 19 = .ok (.iload_n 2, 1) := by decide +kernel
theorem dX5_readSum_20 : decode cX5_readSum 20 = .ok (.iload 4, 2) := by decide +kernel
theorem dX5_readSum_22 : decode cX5_readSum 22 = .ok (.invokevirtual 108, 3) := by decide +kernel
theorem dX5_readSum_25 : decode cX5_readSum 25 = .ok (.aload_n 0, 1) := by decide +kernel
theorem dX5_readSum_26 : decode cX5_readSum 26 = .ok (.invokevirtual 78, 3) := by decide +kernel
theorem dX5_readSum_29 : decode cX5_readSum 29 = .ok (.aload_n 0, 1) := by decide +kernel
theorem dX5_readSum_30 : decode cX5_readSum 30 = .ok (.invokevirtual 96, 3) := by decide +kernel
theorem dX5_readSum_33 : decode cX5_readSum 33 = .ok (.istore 5, 2) := by decide +kernel
theorem dX5_readSum_35 : decode cX5_readSum 35 = .ok (.aload_n 0, 1) := by decide +kernel
theorem dX5_readSum_36 : decode cX5_readSum 36 = .ok (.getfield 25, 3) := by decide +kernel
theorem dX5_readSum_39 : decode cX5_readSum 39 = .ok (.ifCond .ne 21, 3) := by decide +kernel
theorem dX5_readSum_42 : decode cX5_readSum 42 = .ok (.iload 5, 2) := by decide +kernel
theorem dX5_readSum_44 : decode cX5_readSum 44 = .ok (.bipush 43, 2) := by decide +kernel
theorem dX5_readSum_46 : decode cX5_readSum 46 = .ok (.if_icmp .eq 10, 3) := by decide +kernel
theorem dX5_readSum_49 : decode cX5_readSum 49 = .ok (.iload 5, 2) := by decide +kernel
theorem dX5_readSum_51 : decode cX5_readSum 51 = .ok (.bipush 45, 2) := by decide +kernel
theorem dX5_readSum_53 : decode cX5_readSum 53 = .ok (.if_icmp .ne 7, 3) := by decide +kernel
theorem dX5_readSum_56 : decode cX5_readSum 56 = .ok (.iconst 1, 1) := by decide +kernel
theorem dX5_readSum_57 : decode cX5_readSum 57 = .ok (.goto 4, 3) := by decide +kernel
theorem dX5_readSum_60 : decode cX5_readSum 60 = .ok (.iconst 0, 1) := by decide +kernel
theorem dX5_readSum_61 : decode cX5_readSum 61 = .ok (.istore_n 3, 1) := by decide +kernel
theorem dX5_readSum_62 : decode cX5_readSum 62 = .ok (.iload_n 3, 1) := by decide +kernel
theorem dX5_readSum_63 : decode cX5_readSum 63 = .ok (.ifCond .eq 27, 3) := by decide +kernel
theorem dX5_readSum_66 : decode cX5_readSum 66 = .ok (.iload 5, 2) := by decide +kernel
theorem dX5_readSum_68 : decode cX5_readSum 68 = .ok (.bipush 43, 2) := by decide +kernel
theorem dX5_readSum_70 : decode cX5_readSum 70 = .ok (.if_icmp .ne 7, 3) := by decide +kernel
theorem dX5_readSum_73 : decode cX5_readSum 73 = .ok (.iload_n 1, 1) := by decide +kernel
theorem dX5_readSum_74 : decode cX5_readSum 74 = .ok (.goto 5, 3) := by decide +kernel
theorem dX5_readSum_77 : decode cX5_readSum 77 = .ok (.iload_n 1, 1) := by decide +kernel
theorem dX5_readSum_78 : decode cX5_readSum 78 = .ok (.ineg, 1) := by decide +kernel
theorem dX5_readSum_79 : decode cX5_readSum 79 = .ok (.istore_n 2, 1) := by decide +kernel
theorem dX5_readSum_80 : decode cX5_readSum 80 = .ok (.aload_n 0, 1) := by decide +kernel
theorem dX5_readSum_81 : decode cX5_readSum 81 = .ok (.dup, 1) := by decide +kernel
theorem dX5_readSum_82 : decode cX5_readSum 82 = .ok (.getfield 22, 3) := by decide +kernel
theorem dX5_readSum_85 : decode cX5_readSum 85 = .ok (.iconst 1, 1) := by decide +kernel
theorem dX5_readSum_86 : decode cX5_readSum 86 = .ok (.iadd, 1) := by decide +kernel
theorem dX5_readSum_87 : decode cX5_readSum 87 = .ok (.putfield 22, 3) := by decide +kernel
theorem dX5_readSum_90 : decode cX5_readSum 90 = .ok (.iinc 4 1, 3) := by decide +kernel
theorem dX5_readSum_93 : decode cX5_readSum 93 = .ok (.goto (-86), 3) := by decide +kernel
theorem dX5_readSum_96 : decode cX5_readSum 96 = .ok (.return_, 1) := by decide +kernel
set_option maxHeartbeats 4000000 in
set_option maxRecDepth 100000 in
theorem k_X5_readSum (l : Launch) (D : va_G) (cy : Nat → ClassId) {L : List Nat} {τ : Nat → Ro} {E : Ec} (hI : Inv TB cy L τ E) {G : Sg} {a0 : Nat} (ha0 : a0 ∈ L) (ta0 : τ a0 = (7, 0)) (a1 : Int32) {qe : Nat} (hqe : qe ∈ L) (tqe : τ qe = (33, 0)) {qs : Nat} (hqs : qs ∈ L) (tqs : τ qs = (36, 0)) (hR : RdW E a0 qe qs) : CtV1 G l yX5_readSum wsX5_readSum { frames := 8, cells := 0, slots := 0, locals := 177 } D TB cy L τ E [.ref a0, .int a1] (inW [(7, 0), (34, 0), (35, 0), (36, 0)]) (fun E' => (∀ k : Nat, k ∉ ([3, 4, 5, 7, 9] : List Nat) → fi E' a0 k = fi E a0 k) ∧ RdW E' a0 qe qs) := by
  intro sz
  refine sta1 (cc := cX5_readSum) (maxL := 6) hI (by decide) rfl (Nat.le_of_ble_eq_true rfl) (fun p e s m args below meth c ls hsz Z SZ S0 hl => ?_)
  have hx := Z.1.1
  have hb := Z.1.2.1
  have hts := Z.1.2.2.2.2
  have F0_ : Fr L τ (inW [(7, 0), (34, 0), (35, 0), (36, 0)]) E E := Fr.refl
  have hl : lv_has ls 6 [(0, .ref a0), (1, .int a1)] := hl
  generalize hQ : MQ below _ args s 0 0 _ = QQ
  have J7 : ∀ (n : Nat) (x2_7 : Int32) (x3_7 : Int32) (x4_7 : Int32) (E_7 : Ec) (H_7 : Heap) (k_7 : List Loc) (l_7 : Array Slot), Now D TB cy (va_A (va_pl L E) sz) s L τ E_7 H_7 k_7 → Fr L τ (inW [(7, 0), (34, 0), (35, 0), (36, 0)]) E E_7 → (0 ≤ x3_7.toInt) → (x3_7.toInt ≤ 1) → (0 ≤ x4_7.toInt) → (x4_7.toInt ≤ 9) → (RdW E_7 a0 qe qs) → (∀ k : Nat, k ∉ ([3, 4, 5, 7, 9] : List Nat) → fi E_7 a0 k = fi E a0 k) → (0 ≤ (fi E_7 a0 3).toInt ∧ (fi E_7 a0 3).toInt ≤ 120) → (9 - x4_7.toInt).toNat < n → lv_has l_7 6 [(0, .ref a0), (1, .int a1), (2, .int x2_7), (3, .int x3_7), (4, .int x4_7)] → W p l e { frames := 8, cells := 0, slots := 0, locals := 177 } s m args below meth c H_7 k_7 0 0 QQ (F0 m 7 l_7 []) := by
    intro n
    induction n with
    | zero => intro x2_7 x3_7 x4_7 E_7 H_7 k_7 l_7 S_7 F_7 z1 z2 z3 z4 z5 z6 z7 hm hl_7; exact absurd hm (Nat.not_lt_zero _)
    | succ n ih =>
      intro x2_7 x3_7 x4_7 E_7 H_7 k_7 l_7 S_7 F_7 z1 z2 z3 z4 z5 z6 z7 hm hl_7
      have ih_7 := ih
      have J90 : ∀ (x2_90 : Int32) (x3_90 : Int32) (E_90 : Ec) (H_90 : Heap) (k_90 : List Loc) (l_90 : Array Slot), Now D TB cy (va_A (va_pl L E) sz) s L τ E_90 H_90 k_90 → Fr L τ (inW [(7, 0), (34, 0), (35, 0), (36, 0)]) E E_90 → (0 ≤ x3_90.toInt) → (x3_90.toInt ≤ 1) → (0 ≤ x4_7.toInt) → (x4_7.toInt ≤ 8) → (RdW E_90 a0 qe qs) → (∀ k : Nat, k ∉ ([3, 4, 5, 7, 9] : List Nat) → fi E_90 a0 k = fi E a0 k) → (0 ≤ (fi E_90 a0 3).toInt ∧ (fi E_90 a0 3).toInt ≤ 120) → lv_has l_90 6 [(0, .ref a0), (1, .int a1), (2, .int x2_90), (3, .int x3_90), (4, .int x4_7)] → W p l e { frames := 8, cells := 0, slots := 0, locals := 177 } s m args below meth c H_90 k_90 0 0 QQ (F0 m 90 l_90 []) := by
        intro x2_90 x3_90 E_90 H_90 k_90 l_90 S_90 F_90 z8 z9 z10 z11 z12 z13 z14 hl_90
        obtain ⟨v15, ev15⟩ : ∃ y : Int32, x4_7 + Int32.ofInt (1) = y := ⟨_, rfl⟩
        have tv15 : v15.toInt = x4_7.toInt + (1) := by rw [← ev15]; exact (fb_addI (by rw [show (Int32.ofInt (1)).toInt = 1 from by decide +kernel]; omega) (by rw [show (Int32.ofInt (1)).toInt = 1 from by decide +kernel]; omega)).trans (by rw [show (Int32.ofInt (1)).toInt = 1 from by decide +kernel])
        refine lv_iinc (v := v15) (lv' := [(4, .int v15), (0, .ref a0), (1, .int a1), (2, .int x2_90), (3, .int x3_90)]) hx hb dX5_readSum_90 hl_90 (k := 4) rfl ev15 (by decide) rfl (fun l16 hl17 => ?_)
        refine lv_goto (tgt := 7) hx hb dX5_readSum_93 (by decide) ?_
        exact ih_7 x2_90 x3_90 v15 E_90 H_90 k_90 l16 S_90 F_90 (by have := fb_rng a1; have := fb_rng x2_90; omega) (by have := fb_rng a1; have := fb_rng x2_90; omega) (by have := fb_rng a1; have := fb_rng x2_90; omega) (by have := fb_rng a1; have := fb_rng x2_90; omega) z12 (fun k hk => (z13 k hk)) (by have := fb_rng a1; have := fb_rng x2_90; omega) (by omega) (lv_sub hl17 [1, 2, 3, 4, 0] rfl)
      have J79 : ∀ (x3_79 : Int32) (y0_79 : Int32) (E_79 : Ec) (H_79 : Heap) (k_79 : List Loc) (l_79 : Array Slot), Now D TB cy (va_A (va_pl L E) sz) s L τ E_79 H_79 k_79 → Fr L τ (inW [(7, 0), (34, 0), (35, 0), (36, 0)]) E E_79 → (1 ≤ x3_79.toInt) → (x3_79.toInt ≤ 1) → (0 ≤ x4_7.toInt) → (x4_7.toInt ≤ 8) → (RdW E_79 a0 qe qs) → (∀ k : Nat, k ∉ ([3, 4, 5, 7, 9] : List Nat) → fi E_79 a0 k = fi E a0 k) → (0 ≤ (fi E_79 a0 3).toInt ∧ (fi E_79 a0 3).toInt ≤ 119) → lv_has l_79 6 [(0, .ref a0), (1, .int a1), (3, .int x3_79), (4, .int x4_7)] → W p l e { frames := 8, cells := 0, slots := 0, locals := 177 } s m args below meth c H_79 k_79 0 0 QQ (F0 m 79 l_79 [.int y0_79]) := by
        intro x3_79 y0_79 E_79 H_79 k_79 l_79 S_79 F_79 z18 z19 z20 z21 z22 z23 z24 hl_79
        refine lv_istore_n (lv' := [(2, .int y0_79), (0, .ref a0), (1, .int a1), (3, .int x3_79), (4, .int x4_7)]) hx hb dX5_readSum_79 rfl hl_79 (by decide) rfl (fun l25 hl26 => ?_)
        refine lv_aload_n hx hb dX5_readSum_80 rfl (lv_at hl26 1 rfl) ?_
        refine lv_dup hx hb dX5_readSum_81 rfl ?_
        refine tr_geti Z.1 Z.2.2.2.1 S_79.1 S_79.2 ha0 ta0 rfl rfl (fun _ h => List.mem_cons_of_mem _ (List.mem_append_right _ h)) 3 (by decide) rfl (hts _ (List.mem_of_getElem? (i := 2) rfl)) dX5_readSum_82 (fun v27 ev27 lv27 uv27 => ?_)
        have wv27 : v27 = (fi E_79 a0 3) := ev27.symm.trans rfl
        have xv27 : v27.toInt = (fi E_79 a0 3).toInt := by rw [wv27]
        obtain ⟨v28, ev28, tv28⟩ : ∃ v : Int32, Int32.ofInt (1) = v ∧ v.toInt = 1 := ⟨_, rfl, by decide +kernel⟩
        refine lv_iconst hx hb dX5_readSum_85 ev28 ?_
        refine lv_iadd hx hb dX5_readSum_86 ?_
        refine lv_topi (fun v29 ev29 => ?_)
        have tv29 := nu_add ev29 (by omega) (by omega)
        refine tr_puti Z.1 Z.2.2.2.1 S_79.1 S_79.2 ha0 ta0 rfl rfl (fun _ h => List.mem_cons_of_mem _ (List.mem_append_right _ h)) tyX5_ok nmX5 3 (by decide) rfl rfl rfl (hts _ (List.mem_of_getElem? (i := 2) rfl)) dX5_readSum_87 (by omega) (by omega) (fun E30 H31 k32 W30 I30 P30 => ?_)
        have S30 : Now D TB cy (va_A (va_pl L E) sz) s L τ E30 H31 k32 := ⟨W30, I30⟩
        have F30 : Fr L τ (inW [(7, 0), (34, 0), (35, 0), (36, 0)]) E E30 := Fr.put F_79 P30 ta0 rfl
        exact J90 y0_79 x3_79 E30 H31 k32 l25 S30 F30 (by have := fb_rng y0_79; have := fb_rng a1; omega) (by have := fb_rng y0_79; have := fb_rng a1; omega) (by have := fb_rng y0_79; have := fb_rng a1; omega) (by have := fb_rng y0_79; have := fb_rng a1; omega) (RdW.same z22 (P30.1 qe (ne_ro tqe ta0 (by decide))) (P30.1 qs (ne_ro tqs ta0 (by decide))) (fi_put P30 (Or.inr (by decide))) (fi_put P30 (Or.inr (by decide))) (fi_put P30 (Or.inr (by decide)))) (fun k hk => ((fi_put P30 (Or.inr (fw_ne (by decide) hk))).trans (z23 k hk))) (by rw [(fi_at P30)]; have := fb_rng y0_79; have := fb_rng a1; omega) (lv_sub hl26 [1, 2, 0, 3, 4] rfl)
      have J61 : ∀ (x5_61 : Int32) (y0_61 : Int32) (E_61 : Ec) (H_61 : Heap) (k_61 : List Loc) (l_61 : Array Slot), Now D TB cy (va_A (va_pl L E) sz) s L τ E_61 H_61 k_61 → Fr L τ (inW [(7, 0), (34, 0), (35, 0), (36, 0)]) E E_61 → (0 ≤ x4_7.toInt) → (x4_7.toInt ≤ 8) → (-1 ≤ x5_61.toInt) → (x5_61.toInt ≤ 255) → (0 ≤ y0_61.toInt) → (y0_61.toInt ≤ 1) → (RdW E_61 a0 qe qs) → (∀ k : Nat, k ∉ ([3, 4, 5, 7, 9] : List Nat) → fi E_61 a0 k = fi E a0 k) → (0 ≤ (fi E_61 a0 3).toInt ∧ (fi E_61 a0 3).toInt ≤ 120 ∧ (y0_61.toInt = 1 → (fi E_61 a0 3).toInt ≤ 119)) → lv_has l_61 6 [(0, .ref a0), (1, .int a1), (2, .int x2_7), (4, .int x4_7), (5, .int x5_61)] → W p l e { frames := 8, cells := 0, slots := 0, locals := 177 } s m args below meth c H_61 k_61 0 0 QQ (F0 m 61 l_61 [.int y0_61]) := by
        intro x5_61 y0_61 E_61 H_61 k_61 l_61 S_61 F_61 z33 z34 z35 z36 z37 z38 z39 z40 z41 hl_61
        refine lv_istore_n (lv' := [(3, .int y0_61), (0, .ref a0), (1, .int a1), (2, .int x2_7), (4, .int x4_7), (5, .int x5_61)]) hx hb dX5_readSum_61 rfl hl_61 (by decide) rfl (fun l42 hl43 => ?_)
        refine lv_iload_n hx hb dX5_readSum_62 rfl (lv_at hl43 0 rfl) ?_
        refine lv_if_eq (tgt := 90) hx hb dX5_readSum_63 (by decide) (fun c44 => ?_) (fun c44 => ?_)
        · skip
          have tc44 := nu_eq c44
          have uc44 : (0 : Int32).toInt = 0 := rfl
          exact J90 x2_7 y0_61 E_61 H_61 k_61 l42 S_61 F_61 (by have := fb_rng a1; have := fb_rng x2_7; omega) (by have := fb_rng a1; have := fb_rng x2_7; omega) (by have := fb_rng a1; have := fb_rng x2_7; omega) (by have := fb_rng a1; have := fb_rng x2_7; omega) z39 (fun k hk => (z40 k hk)) (by have := fb_rng a1; have := fb_rng x2_7; omega) (lv_sub hl43 [1, 2, 3, 0, 4] rfl)
        · skip
          have tc44 := nu_ne c44
          have uc44 : (0 : Int32).toInt = 0 := rfl
          refine lv_iload hx hb dX5_readSum_66 (lv_at hl43 5 rfl) ?_
          obtain ⟨v45, ev45, tv45⟩ : ∃ v : Int32, (Int8.ofInt (43)).toInt32 = v ∧ v.toInt = 43 := ⟨_, rfl, by decide +kernel⟩
          refine lv_bipush hx hb dX5_readSum_68 ev45 ?_
          refine lv_icmp_ne (tgt := 77) hx hb dX5_readSum_70 (by decide) (fun c46 => ?_) (fun c46 => ?_)
          · skip
            have tc46 := nu_ne c46
            refine lv_iload_n hx hb dX5_readSum_77 rfl (lv_at hl43 2 rfl) ?_
            refine lv_ineg hx hb dX5_readSum_78 ?_
            refine lv_topi (fun v47 ev47 => ?_)
            exact J79 y0_61 v47 E_61 H_61 k_61 l42 S_61 F_61 (by have := fb_rng a1; have := fb_rng x2_7; omega) (by have := fb_rng a1; have := fb_rng x2_7; omega) (by have := fb_rng a1; have := fb_rng x2_7; omega) (by have := fb_rng a1; have := fb_rng x2_7; omega) z39 (fun k hk => (z40 k hk)) (by have := fb_rng a1; have := fb_rng x2_7; omega) (lv_sub hl43 [1, 2, 0, 4] rfl)
          · skip
            have tc46 := nu_eq c46
            refine lv_iload_n hx hb dX5_readSum_73 rfl (lv_at hl43 2 rfl) ?_
            refine lv_goto (tgt := 79) hx hb dX5_readSum_74 (by decide) ?_
            exact J79 y0_61 a1 E_61 H_61 k_61 l42 S_61 F_61 (by have := fb_rng a1; have := fb_rng x2_7; omega) (by have := fb_rng a1; have := fb_rng x2_7; omega) (by have := fb_rng a1; have := fb_rng x2_7; omega) (by have := fb_rng a1; have := fb_rng x2_7; omega) z39 (fun k hk => (z40 k hk)) (by have := fb_rng a1; have := fb_rng x2_7; omega) (lv_sub hl43 [1, 2, 0, 4] rfl)
      have J60 : ∀ (x5_60 : Int32) (E_60 : Ec) (H_60 : Heap) (k_60 : List Loc) (l_60 : Array Slot), Now D TB cy (va_A (va_pl L E) sz) s L τ E_60 H_60 k_60 → Fr L τ (inW [(7, 0), (34, 0), (35, 0), (36, 0)]) E E_60 → (0 ≤ x4_7.toInt) → (x4_7.toInt ≤ 8) → (-1 ≤ x5_60.toInt) → (x5_60.toInt ≤ 255) → (RdW E_60 a0 qe qs) → (∀ k : Nat, k ∉ ([3, 4, 5, 7, 9] : List Nat) → fi E_60 a0 k = fi E a0 k) → (0 ≤ (fi E_60 a0 3).toInt ∧ (fi E_60 a0 3).toInt ≤ 120) → lv_has l_60 6 [(0, .ref a0), (1, .int a1), (2, .int x2_7), (4, .int x4_7), (5, .int x5_60)] → W p l e { frames := 8, cells := 0, slots := 0, locals := 177 } s m args below meth c H_60 k_60 0 0 QQ (F0 m 60 l_60 []) := by
        intro x5_60 E_60 H_60 k_60 l_60 S_60 F_60 z48 z49 z50 z51 z52 z53 z54 hl_60
        obtain ⟨v55, ev55, tv55⟩ : ∃ v : Int32, Int32.ofInt (0) = v ∧ v.toInt = 0 := ⟨_, rfl, by decide +kernel⟩
        refine lv_iconst hx hb dX5_readSum_60 ev55 ?_
        exact J61 x5_60 v55 E_60 H_60 k_60 l_60 S_60 F_60 (by have := fb_rng a1; have := fb_rng x2_7; omega) (by have := fb_rng a1; have := fb_rng x2_7; omega) (by have := fb_rng a1; have := fb_rng x2_7; omega) (by have := fb_rng a1; have := fb_rng x2_7; omega) (by have := fb_rng a1; have := fb_rng x2_7; omega) (by have := fb_rng a1; have := fb_rng x2_7; omega) z52 (fun k hk => (z53 k hk)) (by have := fb_rng a1; have := fb_rng x2_7; omega) (lv_sub hl_60 [0, 1, 2, 3, 4] rfl)
      have J56 : ∀ (x5_56 : Int32) (E_56 : Ec) (H_56 : Heap) (k_56 : List Loc) (l_56 : Array Slot), Now D TB cy (va_A (va_pl L E) sz) s L τ E_56 H_56 k_56 → Fr L τ (inW [(7, 0), (34, 0), (35, 0), (36, 0)]) E E_56 → (0 ≤ x4_7.toInt) → (x4_7.toInt ≤ 8) → (43 ≤ x5_56.toInt) → (x5_56.toInt ≤ 45) → (RdW E_56 a0 qe qs) → (∀ k : Nat, k ∉ ([3, 4, 5, 7, 9] : List Nat) → fi E_56 a0 k = fi E a0 k) → (0 ≤ (fi E_56 a0 3).toInt ∧ (fi E_56 a0 3).toInt ≤ 119) → lv_has l_56 6 [(0, .ref a0), (1, .int a1), (2, .int x2_7), (4, .int x4_7), (5, .int x5_56)] → W p l e { frames := 8, cells := 0, slots := 0, locals := 177 } s m args below meth c H_56 k_56 0 0 QQ (F0 m 56 l_56 []) := by
        intro x5_56 E_56 H_56 k_56 l_56 S_56 F_56 z56 z57 z58 z59 z60 z61 z62 hl_56
        obtain ⟨v63, ev63, tv63⟩ : ∃ v : Int32, Int32.ofInt (1) = v ∧ v.toInt = 1 := ⟨_, rfl, by decide +kernel⟩
        refine lv_iconst hx hb dX5_readSum_56 ev63 ?_
        refine lv_goto (tgt := 61) hx hb dX5_readSum_57 (by decide) ?_
        exact J61 x5_56 v63 E_56 H_56 k_56 l_56 S_56 F_56 (by have := fb_rng a1; have := fb_rng x2_7; omega) (by have := fb_rng a1; have := fb_rng x2_7; omega) (by have := fb_rng a1; have := fb_rng x2_7; omega) (by have := fb_rng a1; have := fb_rng x2_7; omega) (by have := fb_rng a1; have := fb_rng x2_7; omega) (by have := fb_rng a1; have := fb_rng x2_7; omega) z60 (fun k hk => (z61 k hk)) (by have := fb_rng a1; have := fb_rng x2_7; omega) (lv_sub hl_56 [0, 1, 2, 3, 4] rfl)
      refine lv_iload hx hb dX5_readSum_7 (lv_at hl_7 4 rfl) ?_
      obtain ⟨v64, ev64, tv64⟩ : ∃ v : Int32, (Int8.ofInt (8)).toInt32 = v ∧ v.toInt = 8 := ⟨_, rfl, by decide +kernel⟩
      refine lv_bipush hx hb dX5_readSum_9 ev64 ?_
      refine lv_icmp_gt (tgt := 96) hx hb dX5_readSum_11 (by decide) (fun c65 => ?_) (fun c65 => ?_)
      · skip
        have tc65 := nu_lt c65
        rw [← hQ]
        exact en_v Z S_7 F_7 ⟨(fun k hk => (z6 k hk)), z5⟩ dX5_readSum_96
      · skip
        have tc65 := nu_nlt c65
        refine lv_iload_n hx hb dX5_readSum_14 rfl (lv_at hl_7 3 rfl) ?_
        refine lv_if_eq (tgt := 96) hx hb dX5_readSum_15 (by decide) (fun c66 => ?_) (fun c66 => ?_)
        · skip
          have tc66 := nu_eq c66
          have uc66 : (0 : Int32).toInt = 0 := rfl
          rw [← hQ]
          exact en_v Z S_7 F_7 ⟨(fun k hk => (z6 k hk)), z5⟩ dX5_readSum_96
        · skip
          have tc66 := nu_ne c66
          have uc66 : (0 : Int32).toInt = 0 := rfl
          refine lv_aload_n hx hb dX5_readSum_18 rfl (lv_at hl_7 0 rfl) ?_
          refine lv_iload_n hx hb dX5_readSum_19 rfl (lv_at hl_7 2 rfl) ?_
          refine lv_iload hx hb dX5_readSum_20 (lv_at hl_7 4 rfl) ?_
          refine tc1_vv Z.1 Z.2.2.2.1 Z.2.2.2.2.1 Z.2.2.2.2.2 SZ S_7.1 S_7.2 ha0 ta0 rfl rfl (k_X5_readPart l D cy S_7.2 ha0 ta0 x2_7 x4_7 hqe tqe hqs tqs z5) (cwV 2 hts gX5_readSum_X5_readPart rfl rfl rfl (by decide +kernel) ⟨Nat.le_of_ble_eq_true rfl, Nat.le_of_ble_eq_true rfl⟩) rfl hl_7.1 rfl (Nat.le_of_ble_eq_true rfl) dX5_readSum_22 ⟨Nat.zero_le _, Nat.zero_le _⟩ (fun E67 H68 k69 W67 I67 G67 p67 => ?_)
          obtain ⟨p67_0, p67_1⟩ := p67
          have S67 : Now D TB cy (va_A (va_pl L E) sz) s L τ E67 H68 k69 := ⟨W67, I67⟩
          have F67 : Fr L τ (inW [(7, 0), (34, 0), (35, 0), (36, 0)]) E E67 := F_7.trans (G67.mono (inW_mono (by decide)))
          refine lv_aload_n hx hb dX5_readSum_25 rfl (lv_at hl_7 0 rfl) ?_
          refine tc_vv Z.1 Z.2.2.2.1 Z.2.2.2.2.1 Z.2.2.2.2.2 S67.1 S67.2 ha0 ta0 rfl rfl (k_X5_skipBlanks l D cy S67.2 ha0 ta0) (cwV 0 hts gX5_readSum_X5_skipBlanks rfl rfl rfl (by decide +kernel) ⟨Nat.le_of_ble_eq_true rfl, Nat.le_of_ble_eq_true rfl⟩) rfl hl_7.1 rfl (Nat.le_of_ble_eq_true rfl) dX5_readSum_26 ⟨Nat.zero_le _, Nat.zero_le _⟩ (fun E71 H72 k73 W71 I71 G71 p71 => ?_)
          have p71_0 := p71
          have S71 : Now D TB cy (va_A (va_pl L E) sz) s L τ E71 H72 k73 := ⟨W71, I71⟩
          have F71 : Fr L τ (inW [(7, 0), (34, 0), (35, 0), (36, 0)]) E E71 := F67.trans (G71.mono (inW_mono (by decide)))
          refine lv_aload_n hx hb dX5_readSum_29 rfl (lv_at hl_7 0 rfl) ?_
          refine tc_vi Z.1 Z.2.2.2.1 Z.2.2.2.2.1 Z.2.2.2.2.2 S71.1 S71.2 ha0 ta0 rfl rfl (k_X5_peek l D cy S71.2 ha0 ta0) (cwV 0 hts gX5_readSum_X5_peek rfl rfl rfl (by decide +kernel) ⟨Nat.le_of_ble_eq_true rfl, Nat.le_of_ble_eq_true rfl⟩) rfl hl_7.1 rfl (Nat.le_of_ble_eq_true rfl) dX5_readSum_30 ⟨Nat.zero_le _, Nat.zero_le _⟩ (fun v78 E75 H76 k77 W75 I75 G75 p75 => ?_)
          obtain ⟨q75, p75_0, p75_1, p75_2⟩ := p75
          have q75 := q75.symm
          subst q75
          have S75 : Now D TB cy (va_A (va_pl L E) sz) s L τ E71 H76 k77 := ⟨W75, I75⟩
          have kz75_3 := fi_rng (k := 3) S75.2 ha0 ta0 rfl rfl
          refine lv_istore (lv' := [(5, .int v78), (0, .ref a0), (1, .int a1), (2, .int x2_7), (3, .int x3_7), (4, .int x4_7)]) hx hb dX5_readSum_33 hl_7 (by decide) rfl (fun l79 hl80 => ?_)
          refine lv_aload_n hx hb dX5_readSum_35 rfl (lv_at hl80 1 rfl) ?_
          refine tr_geti Z.1 Z.2.2.2.1 S75.1 S75.2 ha0 ta0 rfl rfl (fun _ h => List.mem_cons_of_mem _ (List.mem_append_right _ h)) 4 (by decide) rfl (hts _ (List.mem_of_getElem? (i := 1) rfl)) dX5_readSum_36 (fun v81 ev81 lv81 uv81 => ?_)
          refine lv_if_ne (tgt := 60) hx hb dX5_readSum_39 (by decide) (fun c82 => ?_) (fun c82 => ?_)
          · skip
            have tc82 := nu_ne c82
            have uc82 : (0 : Int32).toInt = 0 := rfl
            exact J60 v78 E71 H76 k77 l79 S75 F71 (by have := fb_rng a1; have := fb_rng x2_7; omega) (by have := fb_rng a1; have := fb_rng x2_7; omega) (by have := fb_rng a1; have := fb_rng x2_7; omega) (by have := fb_rng a1; have := fb_rng x2_7; omega) (RdW.same p67_1 (G71 qe hqe (by rw [tqe]; rfl)) (G71 qs hqs (by rw [tqs]; rfl)) (p71_0 7 (by decide)) (p71_0 8 (by decide)) (p71_0 9 (by decide))) (fun k hk => ((p71_0 k (fw_sub (by decide) hk)).trans ((p67_0 k (fw_sub (by decide) hk)).trans (z6 k hk)))) (by have := fb_rng a1; have := fb_rng x2_7; omega) (lv_sub hl80 [1, 2, 3, 5, 0] rfl)
          · skip
            have tc82 := nu_eq c82
            have uc82 : (0 : Int32).toInt = 0 := rfl
            refine lv_iload hx hb dX5_readSum_42 (lv_at hl80 0 rfl) ?_
            obtain ⟨v83, ev83, tv83⟩ : ∃ v : Int32, (Int8.ofInt (43)).toInt32 = v ∧ v.toInt = 43 := ⟨_, rfl, by decide +kernel⟩
            refine lv_bipush hx hb dX5_readSum_44 ev83 ?_
            refine lv_icmp_eq (tgt := 56) hx hb dX5_readSum_46 (by decide) (fun c84 => ?_) (fun c84 => ?_)
            · skip
              have tc84 := nu_eq c84
              exact J56 v78 E71 H76 k77 l79 S75 F71 (by have := fb_rng a1; have := fb_rng x2_7; omega) (by have := fb_rng a1; have := fb_rng x2_7; omega) (by have := fb_rng a1; have := fb_rng x2_7; omega) (by have := fb_rng a1; have := fb_rng x2_7; omega) (RdW.same p67_1 (G71 qe hqe (by rw [tqe]; rfl)) (G71 qs hqs (by rw [tqs]; rfl)) (p71_0 7 (by decide)) (p71_0 8 (by decide)) (p71_0 9 (by decide))) (fun k hk => ((p71_0 k (fw_sub (by decide) hk)).trans ((p67_0 k (fw_sub (by decide) hk)).trans (z6 k hk)))) (by have := fb_rng a1; have := fb_rng x2_7; omega) (lv_sub hl80 [1, 2, 3, 5, 0] rfl)
            · skip
              have tc84 := nu_ne c84
              refine lv_iload hx hb dX5_readSum_49 (lv_at hl80 0 rfl) ?_
              obtain ⟨v85, ev85, tv85⟩ : ∃ v : Int32, (Int8.ofInt (45)).toInt32 = v ∧ v.toInt = 45 := ⟨_, rfl, by decide +kernel⟩
              refine lv_bipush hx hb dX5_readSum_51 ev85 ?_
              refine lv_icmp_ne (tgt := 60) hx hb dX5_readSum_53 (by decide) (fun c86 => ?_) (fun c86 => ?_)
              · skip
                have tc86 := nu_ne c86
                exact J60 v78 E71 H76 k77 l79 S75 F71 (by have := fb_rng a1; have := fb_rng x2_7; omega) (by have := fb_rng a1; have := fb_rng x2_7; omega) (by have := fb_rng a1; have := fb_rng x2_7; omega) (by have := fb_rng a1; have := fb_rng x2_7; omega) (RdW.same p67_1 (G71 qe hqe (by rw [tqe]; rfl)) (G71 qs hqs (by rw [tqs]; rfl)) (p71_0 7 (by decide)) (p71_0 8 (by decide)) (p71_0 9 (by decide))) (fun k hk => ((p71_0 k (fw_sub (by decide) hk)).trans ((p67_0 k (fw_sub (by decide) hk)).trans (z6 k hk)))) (by have := fb_rng a1; have := fb_rng x2_7; omega) (lv_sub hl80 [1, 2, 3, 5, 0] rfl)
              · skip
                have tc86 := nu_eq c86
                exact J56 v78 E71 H76 k77 l79 S75 F71 (by have := fb_rng a1; have := fb_rng x2_7; omega) (by have := fb_rng a1; have := fb_rng x2_7; omega) (by have := fb_rng a1; have := fb_rng x2_7; omega) (by have := fb_rng a1; have := fb_rng x2_7; omega) (RdW.same p67_1 (G71 qe hqe (by rw [tqe]; rfl)) (G71 qs hqs (by rw [tqs]; rfl)) (p71_0 7 (by decide)) (p71_0 8 (by decide)) (p71_0 9 (by decide))) (fun k hk => ((p71_0 k (fw_sub (by decide) hk)).trans ((p67_0 k (fw_sub (by decide) hk)).trans (z6 k hk)))) (by have := fb_rng a1; have := fb_rng x2_7; omega) (lv_sub hl80 [1, 2, 3, 5, 0] rfl)
  refine lv_iload_n hx hb dX5_readSum_0 rfl (lv_at hl 1 rfl) ?_
  refine lv_istore_n (lv' := [(2, .int a1), (0, .ref a0), (1, .int a1)]) hx hb dX5_readSum_1 rfl hl (by decide) rfl (fun l87 hl88 => ?_)
  obtain ⟨v89, ev89, tv89⟩ : ∃ v : Int32, Int32.ofInt (1) = v ∧ v.toInt = 1 := ⟨_, rfl, by decide +kernel⟩
  refine lv_iconst hx hb dX5_readSum_2 ev89 ?_
  refine lv_istore_n (lv' := [(3, .int v89), (2, .int a1), (0, .ref a0), (1, .int a1)]) hx hb dX5_readSum_3 rfl hl88 (by decide) rfl (fun l90 hl91 => ?_)
  obtain ⟨v92, ev92, tv92⟩ : ∃ v : Int32, Int32.ofInt (0) = v ∧ v.toInt = 0 := ⟨_, rfl, by decide +kernel⟩
  refine lv_iconst hx hb dX5_readSum_4 ev92 ?_
  refine lv_istore (lv' := [(4, .int v92), (3, .int v89), (2, .int a1), (0, .ref a0), (1, .int a1)]) hx hb dX5_readSum_5 hl91 (by decide) rfl (fun l93 hl94 => ?_)
  exact J7 _ a1 v89 v92 E s.heap [] l93 S0 F0_ (by have := fb_rng a1; have := fb_rng a1; omega) (by have := fb_rng a1; have := fb_rng a1; omega) (by have := fb_rng a1; have := fb_rng a1; omega) (by have := fb_rng a1; have := fb_rng a1; omega) hR (fun k hk => ((fun k hk => rfl) k hk)) (fi_rng S0.2 ha0 ta0 rfl rfl) (Nat.lt_succ_self _) (lv_sub hl94 [3, 4, 2, 1, 0] rfl)

set_option maxRecDepth 20000 in
theorem ggX5_readComparison_X5_readSum : GoodIn wsX5_readComparison wsX5_readSum := goodIn_r _ [10, 2, 11, 12, 13, 14, 9, 15, 1, 16, 17, 18, 19, 20, 21, 22, 23, 24, 25, 26, 27, 28, 29, 30, 31, 32, 33, 34, 35, 36, 37, 38, 39, 40, 41, 42, 43, 44, 45, 46, 47, 48, 49, 50, 51, 52, 53, 54, 55, 56, 57, 58, 59, 60, 61, 62, 63, 64, 65, 66, 67, 68, 69, 70, 71, 72, 73, 74, 75, 76, 77, 78, 79, 80, 81, 82, 83, 84, 85, 86, 87, 88, 89, 90, 91, 92, 93, 94, 95, 96, 97, 98, 99, 100, 101, 102, 103, 104, 105, 106, 107, 108, 109, 110, 111, 4, 112, 113, 114, 115, 120, 121, 122, 123, 124, 125, 126, 127, 128, 129, 130, 131, 132, 133] (by decide +kernel) (by decide +kernel)
set_option maxRecDepth 20000 in
theorem gX5_readComparison_X5_readSum : GoodIn wsX5_readComparison (wsV RX5 101 RX5 yX5_readSum wsX5_readSum) := goodIn_app (goodIn_of _ (by decide +kernel)) ggX5_readComparison_X5_readSum
set_option maxRecDepth 20000 in
theorem ggX5_readComparison_X5_readRel : GoodIn wsX5_readComparison wsX5_readRel := goodIn_r _ [119, 11, 22, 23, 24, 9, 25, 20, 21, 99, 100, 101, 102, 2, 103, 120, 121, 122, 123, 124, 125, 126, 127, 128, 129, 130, 131, 132, 133] (by decide +kernel) (by decide +kernel)
set_option maxRecDepth 20000 in
theorem gX5_readComparison_X5_readRel : GoodIn wsX5_readComparison (wsV RX5 105 RX5 yX5_readRel wsX5_readRel) := goodIn_app (goodIn_of _ (by decide +kernel)) ggX5_readComparison_X5_readRel
theorem dX5_readComparison_0 : decode cX5_readComparison 0 = .ok (.aload_n 0, 1) := by decide +kernel
theorem dX5_readComparison_1 : decode cX5_readComparison 1 = .ok (.getfield 41, 3) := by decide +kernel
theorem dX5_readComparison_4 : decode cX5_readComparison 4 = .ok (.istore_n 1, 1) := by decide +kernel
theorem dX5_readComparison_5 : decode cX5_readComparison 5 = .ok (.aload_n 0, 1) := by decide +kernel
theorem dX5_readComparison_6 : decode cX5_readComparison 6 = .ok (.iconst 1, 1) := by decide +kernel
theorem dX5_readComparison_7 : decode cX5_readComparison 7 = .ok (.invokevirtual 101, 3) := by decide +kernel
theorem dX5_readComparison_10 : decode cX5_readComparison 10 = .ok (.aload_n 0, 1) := by decide +kernel
theorem dX5_readComparison_11 : decode cX5_readComparison 11 = .ok (.getfield 25, 3) := by decide +kernel
theorem dX5_readComparison_14 : decode cX5_readComparison 14 = .ok (.ifCond .ne 10, 3) := by decide +kernel
theorem dX5_readComparison_17 : decode cX5_readComparison 17 = .ok (.aload_n 0, 1) := by decide +kernel
theorem dX5_readComparison_18 : decode cX5_readComparison 18 = .ok (.invokevirtual 105, 3) := by decide +kernel
theorem dX5_readComparison_21 : decode cX5_readComparison 21 = .ok (.goto 4, 3) := by decide +kernel
theorem dX5_readComparison_24 : decode cX5_readComparison 24 = .ok (.iconst 0, 1) := by decide +kernel
theorem dX5_readComparison_25 : decode cX5_readComparison 25 = .ok (.istore_n 2, 1) := by decide +kernel
theorem dX5_readComparison_26 : decode cX5_readComparison 26 = .ok (.aload_n 0, 1) := by decide +kernel
theorem dX5_readComparison_27 : decode cX5_readComparison 27 = .ok (.getfield 25, 3) := by decide +kernel
theorem dX5_readComparison_30 : decode cX5_readComparison 30 = .ok (.ifCond .ne 8, 3) := by decide +kernel
theorem dX5_readComparison_33 : decode cX5_readComparison 33 = .ok (.aload_n 0, 1) := by decide +kernel
theorem dX5_readComparison_34 : decode cX5_readComparison 34 = .ok (.iconst (-1), 1) := by decide +kernel
theorem dX5_readComparison_35 : decode cX5_readComparison 35 = .ok (.invokevirtual 101, 3) := by decide +kernel
theorem dX5_readComparison_38 : decode cX5_readComparison 38 = .ok (.aload_n 0, 1) := by decide +kernel
theorem dX5_readComparison_39 : decode cX5_readComparison 39 = .ok (.getfield 25, 3) := by decide +kernel
theorem dX5_readComparison_42 : decode cX5_readComparison 42 = .ok (.ifCond .ne 11, 3) := by decide +kernel
theorem dX5_readComparison_45 : decode cX5_readComparison 45 = .ok (.aload_n 0, 1) := by decide +kernel
theorem dX5_readComparison_46 : decode cX5_readComparison 46 = .ok (.getfield 38, 3) := by decide +kernel
theorem dX5_readComparison_49 : decode cX5_readComparison 49 = .ok (.iconst 4, 1) := by decide +kernel
theorem dX5_readComparison_50 : decode cX5_readComparison 50 = .ok (.if_icmp .lt 4, 3) := by decide +kernel
theorem dX5_readComparison_53 : decode cX5_readComparison 53 = .ok (.return_, 1) := by decide +kernel
theorem dX5_readComparison_54 : decode cX5_readComparison 54 = .ok (.iload_n 1, 1) := by decide +kernel
theorem dX5_readComparison_55 : decode cX5_readComparison 55 = .ok (.istore_n 3, 1) := by decide +kernel
theorem dX5_readComparison_56 : decode cX5_readComparison 56 = .ok (.iload_n 3, 1) := by decide +kernel
theorem dX5_readComparison_57 : decode cX5_readComparison 57 = .ok (.aload_n 0, 1) := by decide +kernel
theorem dX5_readComparison_58 : decode cX5_readComparison 58 = .ok (.getfield 41, 3) := by decide +kernel
theorem dX5_readComparison_61 : decode cX5_readComparison 61 = .ok (.if_icmp .ge 19, 3) := by decide +kernel
theorem dX5_readComparison_64 : decode cX5_readComparison 64 = .ok (.aload_n 0, 1) := by decide +kernel
theorem dX5_readComparison_65 : decode cX5_readComparison 65 = .ok (.getfield 48, 3) := by decide +kernel
theorem dX5_readComparison_68 : decode cX5_readComparison 68 = .ok (.iload_n 3, 1) := by decide +kernel
theorem dX5_readComparison_69 : decode cX5_readComparison 69 = .ok (.dup2, 1) := by decide +kernel
theorem dX5_readComparison_70 : decode cX5_readComparison 70 = .ok (.iaload, 1) := by decide +kernel
theorem dX5_readComparison_71 : decode cX5_readComparison 71 = .ok (.iload_n 2, 1) := by decide +kernel
theorem dX5_readComparison_72 : decode cX5_readComparison 72 = .ok (.imul, 1) := by decide +kernel
theorem dX5_readComparison_73 : decode cX5_readComparison 73 = .ok (.iastore, 1) := by decide +kernel
theorem dX5_readComparison_74 : decode cX5_readComparison 74 = .ok (.iinc 3 1, 3) := by decide +kernel
theorem dX5_readComparison_77 : decode cX5_readComparison 77 = .ok (.goto (-21), 3) := by decide +kernel
theorem dX5_readComparison_80 : decode cX5_readComparison 80 = .ok (.aload_n 0, 1) := by decide +kernel
theorem dX5_readComparison_81 : decode cX5_readComparison 81 = .ok (.getfield 44, 3) := by decide +kernel
theorem dX5_readComparison_84 : decode cX5_readComparison 84 = .ok (.aload_n 0, 1) := by decide +kernel
theorem dX5_readComparison_85 : decode cX5_readComparison 85 = .ok (.getfield 38, 3) := by decide +kernel
theorem dX5_readComparison_88 : decode cX5_readComparison 88 = .ok (.aload_n 0, 1) := by decide +kernel
theorem dX5_readComparison_89 : decode cX5_readComparison 89 = .ok (.getfield 41, 3) := by decide +kernel
theorem dX5_readComparison_92 : decode cX5_readComparison 92 = .ok (.iastore, 1) := by decide +kernel
theorem dX5_readComparison_93 : decode cX5_readComparison 93 = .ok (.aload_n 0, 1) := by decide +kernel
theorem dX5_readComparison_94 : decode cX5_readComparison 94 = .ok (.dup, 1) := by decide +kernel
theorem dX5_readComparison_95 : decode cX5_readComparison 95 = .ok (.getfield 38, 3) := by decide +kernel
theorem dX5_readComparison_98 : decode cX5_readComparison 98 = .ok (.iconst 1, 1) := by decide +kernel
theorem dX5_readComparison_99 : decode cX5_readComparison 99 = .ok (.iadd, 1) := by decide +kernel
theorem dX5_readComparison_100 : decode cX5_readComparison 100 = .ok (.putfield 38, 3) := by decide +kernel
theorem dX5_readComparison_103 : decode cX5_readComparison 103 = .ok (.return_, 1) := by decide +kernel
set_option maxHeartbeats 4000000 in
set_option maxRecDepth 100000 in
theorem k_X5_readComparison (l : Launch) (D : va_G) (cy : Nat → ClassId) {L : List Nat} {τ : Nat → Ro} {E : Ec} (hI : Inv TB cy L τ E) {G : Sg} {a0 : Nat} (ha0 : a0 ∈ L) (ta0 : τ a0 = (7, 0)) {qe : Nat} (hqe : qe ∈ L) (tqe : τ qe = (33, 0)) {qs : Nat} (hqs : qs ∈ L) (tqs : τ qs = (36, 0)) (hR : RdW E a0 qe qs) : CtV1 G l yX5_readComparison wsX5_readComparison { frames := 9, cells := 0, slots := 0, locals := 202 } D TB cy L τ E [.ref a0] (inW [(7, 0), (34, 0), (35, 0), (36, 0), (33, 0)]) (fun E' => (∀ k : Nat, k ∉ ([3, 4, 5, 7, 8, 9] : List Nat) → fi E' a0 k = fi E a0 k) ∧ RdW E' a0 qe qs) := by
  intro sz
  refine sta1 (cc := cX5_readComparison) (maxL := 4) hI (by decide) rfl (Nat.le_of_ble_eq_true rfl) (fun p e s m args below meth c ls hsz Z SZ S0 hl => ?_)
  have hx := Z.1.1
  have hb := Z.1.2.1
  have hts := Z.1.2.2.2.2
  have F0_ : Fr L τ (inW [(7, 0), (34, 0), (35, 0), (36, 0), (33, 0)]) E E := Fr.refl
  have hl : lv_has ls 4 [(0, .ref a0)] := hl
  generalize hQ : MQ below _ args s 0 0 _ = QQ
  have J56 : ∀ (n : Nat) (x2_56 : Int32) (x3_56 : Int32) (E_56 : Ec) (H_56 : Heap) (k_56 : List Loc) (l_56 : Array Slot), Now D TB cy (va_A (va_pl L E) sz) s L τ E_56 H_56 k_56 → Fr L τ (inW [(7, 0), (34, 0), (35, 0), (36, 0), (33, 0)]) E E_56 → (-1 ≤ x2_56.toInt) → (x2_56.toInt ≤ 1) → (0 ≤ x3_56.toInt) → (x3_56.toInt ≤ 64) → (RdW E_56 a0 qe qs) → (∀ k : Nat, k ∉ ([3, 4, 5, 7, 8, 9] : List Nat) → fi E_56 a0 k = fi E a0 k) → (0 ≤ (fi E_56 a0 8).toInt ∧ (fi E_56 a0 8).toInt ≤ 3) → (64 - x3_56.toInt).toNat < n → lv_has l_56 4 [(0, .ref a0), (2, .int x2_56), (3, .int x3_56)] → W p l e { frames := 9, cells := 0, slots := 0, locals := 202 } s m args below meth c H_56 k_56 0 0 QQ (F0 m 56 l_56 []) := by
    intro n
    induction n with
    | zero => intro x2_56 x3_56 E_56 H_56 k_56 l_56 S_56 F_56 z1 z2 z3 z4 z5 z6 z7 hm hl_56; exact absurd hm (Nat.not_lt_zero _)
    | succ n ih =>
      intro x2_56 x3_56 E_56 H_56 k_56 l_56 S_56 F_56 z1 z2 z3 z4 z5 z6 z7 hm hl_56
      have ih_56 := ih
      refine lv_iload_n hx hb dX5_readComparison_56 rfl (lv_at hl_56 2 rfl) ?_
      refine lv_aload_n hx hb dX5_readComparison_57 rfl (lv_at hl_56 0 rfl) ?_
      refine tr_geti Z.1 Z.2.2.2.1 S_56.1 S_56.2 ha0 ta0 rfl rfl (fun _ h => List.mem_cons_of_mem _ (List.mem_append_right _ h)) 9 (by decide) rfl (hts _ (List.mem_of_getElem? (i := 1) rfl)) dX5_readComparison_58 (fun v8 ev8 lv8 uv8 => ?_)
      refine lv_icmp_ge (tgt := 80) hx hb dX5_readComparison_61 (by decide) (fun c9 => ?_) (fun c9 => ?_)
      · skip
        have tc9 := nu_le c9
        refine lv_aload_n hx hb dX5_readComparison_80 rfl (lv_at hl_56 0 rfl) ?_
        refine tr_getr Z.1 Z.2.2.2.1 S_56.1 S_56.2 ha0 ta0 rfl rfl (fun _ h => List.mem_cons_of_mem _ (List.mem_append_right _ h)) 10 (by decide) rfl (hts _ (List.mem_of_getElem? (i := 5) rfl)) dX5_readComparison_81 (fun q10 eq10 hq10 tq10 => ?_)
        have tq10 : τ q10 = (33, 0) := tq10
        have uq10 : qe = q10 := S_56.2.2.2.2 _ hqe _ hq10 (tqe.trans tq10.symm) (by rw [tqe]; rfl)
        subst uq10
        refine lv_aload_n hx hb dX5_readComparison_84 rfl (lv_at hl_56 0 rfl) ?_
        refine tr_geti Z.1 Z.2.2.2.1 S_56.1 S_56.2 ha0 ta0 rfl rfl (fun _ h => List.mem_cons_of_mem _ (List.mem_append_right _ h)) 8 (by decide) rfl (hts _ (List.mem_of_getElem? (i := 3) rfl)) dX5_readComparison_85 (fun v11 ev11 lv11 uv11 => ?_)
        have wv11 : v11 = (fi E_56 a0 8) := ev11.symm.trans rfl
        have xv11 : v11.toInt = (fi E_56 a0 8).toInt := by rw [wv11]
        refine lv_aload_n hx hb dX5_readComparison_88 rfl (lv_at hl_56 0 rfl) ?_
        refine tr_geti Z.1 Z.2.2.2.1 S_56.1 S_56.2 ha0 ta0 rfl rfl (fun _ h => List.mem_cons_of_mem _ (List.mem_append_right _ h)) 9 (by decide) rfl (hts _ (List.mem_of_getElem? (i := 1) rfl)) dX5_readComparison_89 (fun v12 ev12 lv12 uv12 => ?_)
        have wv12 : v12 = v8 := ev12.symm.trans ev8
        have xv12 : v12.toInt = v8.toInt := by rw [wv12]
        refine tr_iast Z.1 Z.2.2.2.1 S_56.1 S_56.2 hqe tqe rfl (by omega) (by omega) (by omega) (by omega) dX5_readComparison_92 (fun E13 H14 k15 W13 I13 P13 => ?_)
        have S13 : Now D TB cy (va_A (va_pl L E) sz) s L τ E13 H14 k15 := ⟨W13, I13⟩
        have F13 : Fr L τ (inW [(7, 0), (34, 0), (35, 0), (36, 0), (33, 0)]) E E13 := Fr.set F_56 P13 tqe rfl
        refine lv_aload_n hx hb dX5_readComparison_93 rfl (lv_at hl_56 0 rfl) ?_
        refine lv_dup hx hb dX5_readComparison_94 rfl ?_
        refine tr_geti Z.1 Z.2.2.2.1 S13.1 S13.2 ha0 ta0 rfl rfl (fun _ h => List.mem_cons_of_mem _ (List.mem_append_right _ h)) 8 (by decide) rfl (hts _ (List.mem_of_getElem? (i := 3) rfl)) dX5_readComparison_95 (fun v16 ev16 lv16 uv16 => ?_)
        have wv16 : v16 = v11 := ev16.symm.trans ((fi_set P13 (ne_ro ta0 tqe (by decide))).trans ev11)
        have xv16 : v16.toInt = v11.toInt := by rw [wv16]
        obtain ⟨v17, ev17, tv17⟩ : ∃ v : Int32, Int32.ofInt (1) = v ∧ v.toInt = 1 := ⟨_, rfl, by decide +kernel⟩
        refine lv_iconst hx hb dX5_readComparison_98 ev17 ?_
        refine lv_iadd hx hb dX5_readComparison_99 ?_
        refine lv_topi (fun v18 ev18 => ?_)
        have tv18 := nu_add ev18 (by omega) (by omega)
        refine tr_puti Z.1 Z.2.2.2.1 S13.1 S13.2 ha0 ta0 rfl rfl (fun _ h => List.mem_cons_of_mem _ (List.mem_append_right _ h)) tyX5_ok nmX5 8 (by decide) rfl rfl rfl (hts _ (List.mem_of_getElem? (i := 3) rfl)) dX5_readComparison_100 (by omega) (by omega) (fun E19 H20 k21 W19 I19 P19 => ?_)
        have S19 : Now D TB cy (va_A (va_pl L E) sz) s L τ E19 H20 k21 := ⟨W19, I19⟩
        have F19 : Fr L τ (inW [(7, 0), (34, 0), (35, 0), (36, 0), (33, 0)]) E E19 := Fr.put F13 P19 ta0 rfl
        rw [← hQ]
        exact en_v Z S19 F19 ⟨(fun k hk => ((fi_put P19 (Or.inr (fw_ne (by decide) hk))).trans ((fi_set P13 (ne_ro ta0 tqe (by decide))).trans (z6 k hk)))), (RdW.rel z5 (r := v11) (n := v12) ev11 ev12 (by omega) P13 (by omega) (P19.1 qe (ne_ro tqe ta0 (by decide))) ((P19.1 qs (ne_ro tqs ta0 (by decide))).trans (P13.1 qs (ne_ro tqs tqe (by decide)))) ((fi_put P19 (Or.inr (by decide))).trans (fi_set P13 (ne_ro ta0 tqe (by decide)))) (by rw [(fi_at P19)]; omega) ((fi_put P19 (Or.inr (by decide))).trans (fi_set P13 (ne_ro ta0 tqe (by decide)))))⟩ dX5_readComparison_103
      · skip
        have tc9 := nu_nle c9
        refine lv_aload_n hx hb dX5_readComparison_64 rfl (lv_at hl_56 0 rfl) ?_
        refine tr_getr Z.1 Z.2.2.2.1 S_56.1 S_56.2 ha0 ta0 rfl rfl (fun _ h => List.mem_cons_of_mem _ (List.mem_append_right _ h)) 11 (by decide) rfl (hts _ (List.mem_of_getElem? (i := 4) rfl)) dX5_readComparison_65 (fun q22 eq22 hq22 tq22 => ?_)
        have tq22 : τ q22 = (34, 0) := tq22
        refine lv_iload_n hx hb dX5_readComparison_68 rfl (lv_at hl_56 2 rfl) ?_
        refine lv_dup2_11 hx hb dX5_readComparison_69 rfl rfl ?_
        refine tr_iald Z.1 Z.2.2.2.1 S_56.1 S_56.2 hq22 tq22 rfl (by omega) (by omega) dX5_readComparison_70 (fun v23 ev23 lv23 uv23 => ?_)
        refine lv_iload_n hx hb dX5_readComparison_71 rfl (lv_at hl_56 1 rfl) ?_
        refine lv_imul hx hb dX5_readComparison_72 ?_
        refine lv_topi (fun v24 ev24 => ?_)
        refine tr_iast Z.1 Z.2.2.2.1 S_56.1 S_56.2 hq22 tq22 rfl (by omega) (by omega) (by have := fb_rng v24; omega) (by have := fb_rng v24; omega) dX5_readComparison_73 (fun E25 H26 k27 W25 I25 P25 => ?_)
        have S25 : Now D TB cy (va_A (va_pl L E) sz) s L τ E25 H26 k27 := ⟨W25, I25⟩
        have F25 : Fr L τ (inW [(7, 0), (34, 0), (35, 0), (36, 0), (33, 0)]) E E25 := Fr.set F_56 P25 tq22 rfl
        obtain ⟨v28, ev28⟩ : ∃ y : Int32, x3_56 + Int32.ofInt (1) = y := ⟨_, rfl⟩
        have tv28 : v28.toInt = x3_56.toInt + (1) := by rw [← ev28]; exact (fb_addI (by rw [show (Int32.ofInt (1)).toInt = 1 from by decide +kernel]; omega) (by rw [show (Int32.ofInt (1)).toInt = 1 from by decide +kernel]; omega)).trans (by rw [show (Int32.ofInt (1)).toInt = 1 from by decide +kernel])
        refine lv_iinc (v := v28) (lv' := [(3, .int v28), (0, .ref a0), (2, .int x2_56)]) hx hb dX5_readComparison_74 hl_56 (k := 2) rfl ev28 (by decide) rfl (fun l29 hl30 => ?_)
        refine lv_goto (tgt := 56) hx hb dX5_readComparison_77 (by decide) ?_
        exact ih_56 x2_56 v28 E25 H26 k27 l29 S25 F25 (by omega) (by omega) (by omega) (by omega) (RdW.same z5 (P25.1 qe (ne_ro tqe tq22 (by decide))) (P25.1 qs (ne_ro tqs tq22 (by decide))) (fi_set P25 (ne_ro ta0 tq22 (by decide))) (fi_set P25 (ne_ro ta0 tq22 (by decide))) (fi_set P25 (ne_ro ta0 tq22 (by decide)))) (fun k hk => ((fi_set P25 (ne_ro ta0 tq22 (by decide))).trans (z6 k hk))) (by rw [((fi_set P25 (ne_ro ta0 tq22 (by decide))).trans rfl)]; omega) (by omega) (lv_sub hl30 [1, 2, 0] rfl)
  have J38 : ∀ (x1_38 : Int32) (x2_38 : Int32) (E_38 : Ec) (H_38 : Heap) (k_38 : List Loc) (l_38 : Array Slot), Now D TB cy (va_A (va_pl L E) sz) s L τ E_38 H_38 k_38 → Fr L τ (inW [(7, 0), (34, 0), (35, 0), (36, 0), (33, 0)]) E E_38 → (0 ≤ x1_38.toInt) → (x1_38.toInt ≤ 64) → (-1 ≤ x2_38.toInt) → (x2_38.toInt ≤ 1) → (RdW E_38 a0 qe qs) → (∀ k : Nat, k ∉ ([3, 4, 5, 7, 8, 9] : List Nat) → fi E_38 a0 k = fi E a0 k) → lv_has l_38 4 [(0, .ref a0), (1, .int x1_38), (2, .int x2_38)] → W p l e { frames := 9, cells := 0, slots := 0, locals := 202 } s m args below meth c H_38 k_38 0 0 QQ (F0 m 38 l_38 []) := by
    intro x1_38 x2_38 E_38 H_38 k_38 l_38 S_38 F_38 z31 z32 z33 z34 z35 z36 hl_38
    refine lv_aload_n hx hb dX5_readComparison_38 rfl (lv_at hl_38 0 rfl) ?_
    refine tr_geti Z.1 Z.2.2.2.1 S_38.1 S_38.2 ha0 ta0 rfl rfl (fun _ h => List.mem_cons_of_mem _ (List.mem_append_right _ h)) 4 (by decide) rfl (hts _ (List.mem_of_getElem? (i := 2) rfl)) dX5_readComparison_39 (fun v37 ev37 lv37 uv37 => ?_)
    refine lv_if_ne (tgt := 53) hx hb dX5_readComparison_42 (by decide) (fun c38 => ?_) (fun c38 => ?_)
    · skip
      have tc38 := nu_ne c38
      have uc38 : (0 : Int32).toInt = 0 := rfl
      rw [← hQ]
      exact en_v Z S_38 F_38 ⟨(fun k hk => (z36 k hk)), z35⟩ dX5_readComparison_53
    · skip
      have tc38 := nu_eq c38
      have uc38 : (0 : Int32).toInt = 0 := rfl
      refine lv_aload_n hx hb dX5_readComparison_45 rfl (lv_at hl_38 0 rfl) ?_
      refine tr_geti Z.1 Z.2.2.2.1 S_38.1 S_38.2 ha0 ta0 rfl rfl (fun _ h => List.mem_cons_of_mem _ (List.mem_append_right _ h)) 8 (by decide) rfl (hts _ (List.mem_of_getElem? (i := 3) rfl)) dX5_readComparison_46 (fun v39 ev39 lv39 uv39 => ?_)
      obtain ⟨v40, ev40, tv40⟩ : ∃ v : Int32, Int32.ofInt (4) = v ∧ v.toInt = 4 := ⟨_, rfl, by decide +kernel⟩
      refine lv_iconst hx hb dX5_readComparison_49 ev40 ?_
      refine lv_icmp_lt (tgt := 54) hx hb dX5_readComparison_50 (by decide) (fun c41 => ?_) (fun c41 => ?_)
      · skip
        have tc41 := nu_lt c41
        refine lv_iload_n hx hb dX5_readComparison_54 rfl (lv_at hl_38 1 rfl) ?_
        refine lv_istore_n (lv' := [(3, .int x1_38), (0, .ref a0), (1, .int x1_38), (2, .int x2_38)]) hx hb dX5_readComparison_55 rfl hl_38 (by decide) rfl (fun l42 hl43 => ?_)
        exact J56 _ x2_38 x1_38 E_38 H_38 k_38 l42 S_38 F_38 (by omega) (by omega) (by omega) (by omega) z35 (fun k hk => (z36 k hk)) (by rw [ev39]; omega) (Nat.lt_succ_self _) (lv_sub hl43 [1, 3, 0] rfl)
      · skip
        have tc41 := nu_nlt c41
        rw [← hQ]
        exact en_v Z S_38 F_38 ⟨(fun k hk => (z36 k hk)), z35⟩ dX5_readComparison_53
  have J25 : ∀ (x1_25 : Int32) (y0_25 : Int32) (E_25 : Ec) (H_25 : Heap) (k_25 : List Loc) (l_25 : Array Slot), Now D TB cy (va_A (va_pl L E) sz) s L τ E_25 H_25 k_25 → Fr L τ (inW [(7, 0), (34, 0), (35, 0), (36, 0), (33, 0)]) E E_25 → (0 ≤ x1_25.toInt) → (x1_25.toInt ≤ 64) → (-1 ≤ y0_25.toInt) → (y0_25.toInt ≤ 1) → (RdW E_25 a0 qe qs) → (∀ k : Nat, k ∉ ([3, 4, 5, 7, 8, 9] : List Nat) → fi E_25 a0 k = fi E a0 k) → lv_has l_25 4 [(0, .ref a0), (1, .int x1_25)] → W p l e { frames := 9, cells := 0, slots := 0, locals := 202 } s m args below meth c H_25 k_25 0 0 QQ (F0 m 25 l_25 [.int y0_25]) := by
    intro x1_25 y0_25 E_25 H_25 k_25 l_25 S_25 F_25 z44 z45 z46 z47 z48 z49 hl_25
    refine lv_istore_n (lv' := [(2, .int y0_25), (0, .ref a0), (1, .int x1_25)]) hx hb dX5_readComparison_25 rfl hl_25 (by decide) rfl (fun l50 hl51 => ?_)
    refine lv_aload_n hx hb dX5_readComparison_26 rfl (lv_at hl51 1 rfl) ?_
    refine tr_geti Z.1 Z.2.2.2.1 S_25.1 S_25.2 ha0 ta0 rfl rfl (fun _ h => List.mem_cons_of_mem _ (List.mem_append_right _ h)) 4 (by decide) rfl (hts _ (List.mem_of_getElem? (i := 2) rfl)) dX5_readComparison_27 (fun v52 ev52 lv52 uv52 => ?_)
    refine lv_if_ne (tgt := 38) hx hb dX5_readComparison_30 (by decide) (fun c53 => ?_) (fun c53 => ?_)
    · skip
      have tc53 := nu_ne c53
      have uc53 : (0 : Int32).toInt = 0 := rfl
      exact J38 x1_25 y0_25 E_25 H_25 k_25 l50 S_25 F_25 (by omega) (by omega) (by omega) (by omega) z48 (fun k hk => (z49 k hk)) (lv_sub hl51 [1, 2, 0] rfl)
    · skip
      have tc53 := nu_eq c53
      have uc53 : (0 : Int32).toInt = 0 := rfl
      refine lv_aload_n hx hb dX5_readComparison_33 rfl (lv_at hl51 1 rfl) ?_
      obtain ⟨v54, ev54, tv54⟩ : ∃ v : Int32, Int32.ofInt (-1) = v ∧ v.toInt = -1 := ⟨_, rfl, by decide +kernel⟩
      refine lv_iconst hx hb dX5_readComparison_34 ev54 ?_
      refine tc1_vv Z.1 Z.2.2.2.1 Z.2.2.2.2.1 Z.2.2.2.2.2 SZ S_25.1 S_25.2 ha0 ta0 rfl rfl (k_X5_readSum l D cy S_25.2 ha0 ta0 v54 hqe tqe hqs tqs z48) (cwV 1 hts gX5_readComparison_X5_readSum rfl rfl rfl (by decide +kernel) ⟨Nat.le_of_ble_eq_true rfl, Nat.le_of_ble_eq_true rfl⟩) rfl hl51.1 rfl (Nat.le_of_ble_eq_true rfl) dX5_readComparison_35 ⟨Nat.zero_le _, Nat.zero_le _⟩ (fun E55 H56 k57 W55 I55 G55 p55 => ?_)
      obtain ⟨p55_0, p55_1⟩ := p55
      have S55 : Now D TB cy (va_A (va_pl L E) sz) s L τ E55 H56 k57 := ⟨W55, I55⟩
      have F55 : Fr L τ (inW [(7, 0), (34, 0), (35, 0), (36, 0), (33, 0)]) E E55 := F_25.trans (G55.mono (inW_mono (by decide)))
      exact J38 x1_25 y0_25 E55 H56 k57 l50 S55 F55 (by omega) (by omega) (by omega) (by omega) p55_1 (fun k hk => ((p55_0 k (fw_sub (by decide) hk)).trans (z49 k hk))) (lv_sub hl51 [1, 2, 0] rfl)
  refine lv_aload_n hx hb dX5_readComparison_0 rfl (lv_at hl 0 rfl) ?_
  refine tr_geti Z.1 Z.2.2.2.1 S0.1 S0.2 ha0 ta0 rfl rfl (fun _ h => List.mem_cons_of_mem _ (List.mem_append_right _ h)) 9 (by decide) rfl (hts _ (List.mem_of_getElem? (i := 1) rfl)) dX5_readComparison_1 (fun v59 ev59 lv59 uv59 => ?_)
  refine lv_istore_n (lv' := [(1, .int v59), (0, .ref a0)]) hx hb dX5_readComparison_4 rfl hl (by decide) rfl (fun l60 hl61 => ?_)
  refine lv_aload_n hx hb dX5_readComparison_5 rfl (lv_at hl61 1 rfl) ?_
  obtain ⟨v62, ev62, tv62⟩ : ∃ v : Int32, Int32.ofInt (1) = v ∧ v.toInt = 1 := ⟨_, rfl, by decide +kernel⟩
  refine lv_iconst hx hb dX5_readComparison_6 ev62 ?_
  refine tc1_vv Z.1 Z.2.2.2.1 Z.2.2.2.2.1 Z.2.2.2.2.2 SZ S0.1 S0.2 ha0 ta0 rfl rfl (k_X5_readSum l D cy S0.2 ha0 ta0 v62 hqe tqe hqs tqs hR) (cwV 1 hts gX5_readComparison_X5_readSum rfl rfl rfl (by decide +kernel) ⟨Nat.le_of_ble_eq_true rfl, Nat.le_of_ble_eq_true rfl⟩) rfl hl61.1 rfl (Nat.le_of_ble_eq_true rfl) dX5_readComparison_7 ⟨Nat.zero_le _, Nat.zero_le _⟩ (fun E63 H64 k65 W63 I63 G63 p63 => ?_)
  obtain ⟨p63_0, p63_1⟩ := p63
  have S63 : Now D TB cy (va_A (va_pl L E) sz) s L τ E63 H64 k65 := ⟨W63, I63⟩
  have F63 : Fr L τ (inW [(7, 0), (34, 0), (35, 0), (36, 0), (33, 0)]) E E63 := F0_.trans (G63.mono (inW_mono (by decide)))
  refine lv_aload_n hx hb dX5_readComparison_10 rfl (lv_at hl61 1 rfl) ?_
  refine tr_geti Z.1 Z.2.2.2.1 S63.1 S63.2 ha0 ta0 rfl rfl (fun _ h => List.mem_cons_of_mem _ (List.mem_append_right _ h)) 4 (by decide) rfl (hts _ (List.mem_of_getElem? (i := 2) rfl)) dX5_readComparison_11 (fun v67 ev67 lv67 uv67 => ?_)
  refine lv_if_ne (tgt := 24) hx hb dX5_readComparison_14 (by decide) (fun c68 => ?_) (fun c68 => ?_)
  · skip
    have tc68 := nu_ne c68
    have uc68 : (0 : Int32).toInt = 0 := rfl
    obtain ⟨v69, ev69, tv69⟩ : ∃ v : Int32, Int32.ofInt (0) = v ∧ v.toInt = 0 := ⟨_, rfl, by decide +kernel⟩
    refine lv_iconst hx hb dX5_readComparison_24 ev69 ?_
    exact J25 v59 v69 E63 H64 k65 l60 S63 F63 (by omega) (by omega) (by omega) (by omega) p63_1 (fun k hk => ((p63_0 k (fw_sub (by decide) hk)).trans ((fun k hk => rfl) k hk))) (lv_sub hl61 [1, 0] rfl)
  · skip
    have tc68 := nu_eq c68
    have uc68 : (0 : Int32).toInt = 0 := rfl
    refine lv_aload_n hx hb dX5_readComparison_17 rfl (lv_at hl61 1 rfl) ?_
    refine tc_vi Z.1 Z.2.2.2.1 Z.2.2.2.2.1 Z.2.2.2.2.2 S63.1 S63.2 ha0 ta0 rfl rfl (k_X5_readRel l D cy S63.2 ha0 ta0) (cwV 0 hts gX5_readComparison_X5_readRel rfl rfl rfl (by decide +kernel) ⟨Nat.le_of_ble_eq_true rfl, Nat.le_of_ble_eq_true rfl⟩) rfl hl61.1 rfl (Nat.le_of_ble_eq_true rfl) dX5_readComparison_18 ⟨Nat.zero_le _, Nat.zero_le _⟩ (fun v73 E70 H71 k72 W70 I70 G70 p70 => ?_)
    obtain ⟨p70_0, p70_1, p70_2⟩ := p70
    have S70 : Now D TB cy (va_A (va_pl L E) sz) s L τ E70 H71 k72 := ⟨W70, I70⟩
    have F70 : Fr L τ (inW [(7, 0), (34, 0), (35, 0), (36, 0), (33, 0)]) E E70 := F63.trans (G70.mono (inW_mono (by decide)))
    refine lv_goto (tgt := 25) hx hb dX5_readComparison_21 (by decide) ?_
    exact J25 v59 v73 E70 H71 k72 l60 S70 F70 (by omega) (by omega) (by omega) (by omega) (RdW.same p63_1 (G70 qe hqe (by rw [tqe]; rfl)) (G70 qs hqs (by rw [tqs]; rfl)) (p70_2 7 (by decide)) (p70_2 8 (by decide)) (p70_2 9 (by decide))) (fun k hk => ((p70_2 k (fw_sub (by decide) hk)).trans ((p63_0 k (fw_sub (by decide) hk)).trans ((fun k hk => rfl) k hk)))) (lv_sub hl61 [1, 0] rfl)

