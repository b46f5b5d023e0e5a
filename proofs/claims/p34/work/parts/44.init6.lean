set_option maxRecDepth 20000 in
theorem ggX6_init_J7_fill_53178 : GoodIn wsX6_init wsJ7_fill_53178 := goodIn_r _ [14] (by decide +kernel) (by decide +kernel)
set_option maxRecDepth 20000 in
theorem gX6_init_J7_fill_53178 : GoodIn wsX6_init (va_wsS RX6 29 yJ7_fill_53178 wsJ7_fill_53178) := goodIn_app (goodIn_of _ (by decide +kernel)) ggX6_init_J7_fill_53178
theorem dX6_init_0 : decode cX6_init 0 = .ok (.aload_n 0, 1) := by decide +kernel
theorem dX6_init_1 : decode cX6_init 1 = .ok (.invokespecial 5, 3) := by decide +kernel
theorem dX6_init_4 : decode cX6_init 4 = .ok (.aload_n 0, 1) := by decide +kernel
theorem dX6_init_5 : decode cX6_init 5 = .ok (.bipush 13, 2) := by decide +kernel
theorem dX6_init_7 : decode cX6_init 7 = .ok (.bipush 66, 2) := by decide +kernel
theorem dX6_init_9 : decode cX6_init 9 = .ok (.multianewarray 11 2, 4) := by decide +kernel
theorem dX6_init_13 : decode cX6_init 13 = .ok (.putfield 13, 3) := by decide +kernel
theorem dX6_init_16 : decode cX6_init 16 = .ok (.aload_n 0, 1) := by decide +kernel
theorem dX6_init_17 : decode cX6_init 17 = .ok (.iconst 0, 1) := by decide +kernel
theorem dX6_init_18 : decode cX6_init 18 = .ok (.putfield 16, 3) := by decide +kernel
theorem dX6_init_21 : decode cX6_init 21 = .ok (.aload_n 0, 1) := by decide +kernel
theorem dX6_init_22 : decode cX6_init 22 = .ok (.iconst 1, 1) := by decide +kernel
theorem dX6_init_23 : decode cX6_init 23 = .ok (.putfield 20, 3) := by decide +kernel
theorem dX6_init_26 : decode cX6_init 26 = .ok (.aload_n 0, 1) := by decide +kernel
theorem dX6_init_27 : decode cX6_init 27 = .ok (.iconst 0, 1) := by decide +kernel
theorem dX6_init_28 : decode cX6_init 28 = .ok (.putfield 23, 3) := by decide +kernel
theorem dX6_init_31 : decode cX6_init 31 = .ok (.aload_n 0, 1) := by decide +kernel
theorem dX6_init_32 : decode cX6_init 32 = .ok (.iconst 0, 1) := by decide +kernel
theorem dX6_init_33 : decode cX6_init 33 = .ok (.putfield 26, 3) := by decide +kernel
theorem dX6_init_36 : decode cX6_init 36 = .ok (.aload_n 0, 1) := by decide +kernel
theorem dX6_init_37 : decode cX6_init 37 = .ok (.getfield 13, 3) := by decide +kernel
theorem dX6_init_40 : decode cX6_init 40 = .ok (.bipush 12, 2) := by decide +kernel
theorem dX6_init_42 : decode cX6_init 42 = .ok (.aaload, 1) := by decide +kernel
theorem dX6_init_43 : decode cX6_init 43 = .ok (.iconst 1, 1) := by decide +kernel
theorem dX6_init_44 : decode cX6_init 44 = .ok (.invokestatic 29, 3) := by decide +kernel
theorem dX6_init_47 : decode cX6_init 47 = .ok (.iconst 0, 1) := by decide +kernel
theorem dX6_init_48 : decode cX6_init 48 = .ok (.istore_n 1, 1) := by decide +kernel
theorem dX6_init_49 : decode cX6_init 49 = .ok (.iload_n 1, 1) := by decide +kernel
theorem dX6_init_50 : decode cX6_init 50 = .ok (.bipush 66, 2) := by decide +kernel
theorem dX6_init_52 : decode cX6_init 52 = .ok (.if_icmp .ge 21, 3) := by decide +kernel
theorem dX6_init_55 : decode cX6_init 55 = .ok (.aload_n 0, 1) := by decide +kernel
theorem dX6_init_56 : decode cX6_init 56 = .ok (.getfield 13, 3) := by decide +kernel
theorem dX6_init_59 : decode cX6_init 59 = .ok (.bipush 11, 2) := by decide +kernel
theorem dX6_init_61 : decode cX6_init 61 = .ok (.aaload, 1) := by decide +kernel
theorem dX6_init_62 : decode cX6_init 62 = .ok (.iload_n 1, 1) := by decide +kernel
theorem dX6_init_63 : decode cX6_init 63 = .ok (.iload_n 1, 1) := by decide +kernel
theorem dX6_init_64 : decode cX6_init 64 = .ok (.iconst 1, 1) := by decide +kernel
theorem dX6_init_65 : decode cX6_init 65 = .ok (.iadd, 1) := by decide +kernel
theorem dX6_init_66 : decode cX6_init 66 = .ok (.iastore, 1) := by decide +kernel
theorem dX6_init_67 : decode cX6_init 67 = .ok (.iinc 1 1, 3) := by decide +kernel
theorem dX6_init_70 : decode cX6_init 70 = .ok (.goto (-21), 3) := by decide +kernel
theorem dX6_init_73 : decode cX6_init 73 = .ok (.return_, 1) := by decide +kernel
set_option maxHeartbeats 4000000 in
set_option maxRecDepth 100000 in
theorem k_X6_init_0 (l : Launch) (D : va_G) (cy : Nat → ClassId) {L : List Nat} {τ : Nat → Ro} {E : Ec} (hI : Inv TB cy L τ E) {a0 : Nat} (ha0 : a0 ∈ L) (ta0 : τ a0 = (205, 0)) (he0 : E a0 = .inr (5, [.null, .int 0, .int 0, .int 0, .int 0])) (hab0 : Ab L τ [(5, 0), (30, 0), (100, 0), (101, 0), (102, 0), (103, 0), (104, 0), (105, 0), (106, 0), (107, 0), (108, 0), (109, 0), (110, 0), (111, 0), (112, 0)]) : CtG l yX6_init wsX6_init { frames := 1, cells := 14, slots := 871, locals := 23 } D cy L τ E [.ref a0] a0 [(30, 0), (100, 0), (101, 0), (102, 0), (103, 0), (104, 0), (105, 0), (106, 0), (107, 0), (108, 0), (109, 0), (110, 0), (111, 0), (112, 0)] 14 871 (fun L' τ' E' => τ' a0 = (5, 0)) := by
  intro sz
  refine staG (cc := cX6_init) (maxL := 2) hI (by decide) rfl (Nat.le_of_ble_eq_true rfl) (fun p e s m args below meth c ls hsz hnm Z hO S0 hl => ?_)
  have hx := Z.1.1
  have hb := Z.1.2.1
  have hts := Z.1.2.2.2.2
  have hnm : meth.name = "<init>" := hnm
  have G0 : Gr a0 [] L τ E L τ E := Gr.refl
  have hl : lv_has ls 2 [(0, .ref a0)] := hl
  generalize hQ : MQ below _ args s _ _ _ = QQ
  refine lv_aload_n hx hb dX6_init_0 rfl (lv_at hl 0 rfl) ?_
  refine tr_obj Z.1 hl.1 (hts _ (List.mem_of_getElem? (i := 1) rfl)) (hts _ (List.mem_of_getElem? (i := 2) rfl)) (hts _ (List.mem_of_getElem? (i := 3) rfl)) dX6_init_1 (Nat.le_of_ble_eq_true rfl) (Nat.le_of_ble_eq_true rfl) ?_
  refine lv_aload_n hx hb dX6_init_4 rfl (lv_at hl 0 rfl) ?_
  obtain ⟨v1, ev1, tv1⟩ : ∃ v : Int32, (Int8.ofInt (13)).toInt32 = v ∧ v.toInt = 13 := ⟨_, rfl, by decide +kernel⟩
  refine lv_bipush hx hb dX6_init_5 ev1 ?_
  obtain ⟨v2, ev2, tv2⟩ : ∃ v : Int32, (Int8.ofInt (66)).toInt32 = v ∧ v.toInt = 66 := ⟨_, rfl, by decide +kernel⟩
  refine lv_bipush hx hb dX6_init_7 ev2 ?_
  have nq3 : ∀ b ∈ L, ∀ j : Nat, j ≤ 12 → τ b ≠ (100 + j, 0) := fun b hb j hj => Ab.ne hab0 (inW_row hj (by decide)) b hb
  refine tr_mna Z.1 Z.2.2.2.1 Z.2.2.2.2.2 hO S0 (hts _ (List.mem_of_getElem? (i := 4) rfl)) (hts _ (List.mem_of_getElem? (i := 5) rfl)) (by omega) (by omega) 0 nq3 (Ab.ne hab0 (by decide)) (Nat.le_of_ble_eq_true rfl) (Nat.le_of_ble_eq_true rfl) dX6_init_9 (fun Lq3 Tq3 Eq3 q3 Hq3 Sq3 aq3 bq3 cq3 dq3 eq3 fq3 gq3 => ?_)
  have Wq3 : Gr a0 [(30, 0), (100, 0), (101, 0), (102, 0), (103, 0), (104, 0), (105, 0), (106, 0), (107, 0), (108, 0), (109, 0), (110, 0), (111, 0), (112, 0)] L τ E Lq3 Tq3 Eq3 := ⟨fun a h => aq3 a (G0.1 a h), fun a h hx => (bq3 a (G0.1 a h)).trans (G0.2.1 a h hx), fun a h hx => (cq3 a (G0.1 a h)).trans (G0.2.2.1 a h hx), fun b hb => by
      rcases gq3 b hb with z | z | ⟨j, hj, z⟩
      · exact Or.inl z
      · exact Or.inr (by rw [z]; decide)
      · exact Or.inr (by rw [z]; exact inW_row hj (by decide))⟩
  have f4 : q3 ∉ L := fq3
  have Aq3 : Ab Lq3 Tq3 [(5, 0)] := fun b hb => by
      rcases gq3 b hb with z | z | ⟨j, hj, z⟩
      · rw [bq3 b z]; exact hab0.sub (by decide) b z
      · rw [z]; rfl
      · rw [z]; exact row_out hj
  have hq3 : Eq3 a0 = .inr (5, [.null, .int 0, .int 0, .int 0, .int 0]) := (cq3 a0 ha0).trans he0
  have hm5 : a0 ∈ Lq3 := aq3 _ ha0
  have tm5 : Tq3 a0 = (205, 0) := (bq3 _ ha0).trans ta0
  refine tr_putR Z.1 Z.2.2.2.1 Sq3 hm5 tm5 rfl rfl rfl hq3 rfl (fun _ h => List.mem_cons_of_mem _ (List.mem_append_right _ h)) tyX6_ok nmX6 0 (by decide) (Nat.le_of_ble_eq_true rfl) (Or.inr ⟨hnm, rfl, rfl⟩) (hts _ (List.mem_of_getElem? (i := 6) rfl)) dX6_init_13 rfl rfl (fun Eu6 Hu6 ku6 Su6 ou6 gu6 => ?_)
  have hu6 : Eu6 a0 = .inr (5, [.ref q3, .int 0, .int 0, .int 0, .int 0]) := gu6
  have Wu6 : Gr a0 [(30, 0), (100, 0), (101, 0), (102, 0), (103, 0), (104, 0), (105, 0), (106, 0), (107, 0), (108, 0), (109, 0), (110, 0), (111, 0), (112, 0)] L τ E Lq3 Tq3 Eu6 := Gr.wr Wq3 ou6 (Or.inl rfl)
  refine lv_aload_n hx hb dX6_init_16 rfl (lv_at hl 0 rfl) ?_
  obtain ⟨v7, ev7, tv7⟩ : ∃ v : Int32, Int32.ofInt (0) = v ∧ v.toInt = 0 := ⟨_, rfl, by decide +kernel⟩
  refine lv_iconst hx hb dX6_init_17 ev7 ?_
  refine tr_putR Z.1 Z.2.2.2.1 Su6 hm5 tm5 rfl rfl rfl hu6 rfl (fun _ h => List.mem_cons_of_mem _ (List.mem_append_right _ h)) tyX6_ok nmX6 1 (by decide) (Nat.le_of_ble_eq_true rfl) (Or.inl rfl) (hts _ (List.mem_of_getElem? (i := 7) rfl)) dX6_init_18 rfl rfl (fun Eu8 Hu8 ku8 Su8 ou8 gu8 => ?_)
  have hu8 : Eu8 a0 = .inr (5, [.ref q3, .int v7, .int 0, .int 0, .int 0]) := gu8
  have Wu8 : Gr a0 [(30, 0), (100, 0), (101, 0), (102, 0), (103, 0), (104, 0), (105, 0), (106, 0), (107, 0), (108, 0), (109, 0), (110, 0), (111, 0), (112, 0)] L τ E Lq3 Tq3 Eu8 := Gr.wr Wu6 ou8 (Or.inl rfl)
  refine lv_aload_n hx hb dX6_init_21 rfl (lv_at hl 0 rfl) ?_
  obtain ⟨v9, ev9, tv9⟩ : ∃ v : Int32, Int32.ofInt (1) = v ∧ v.toInt = 1 := ⟨_, rfl, by decide +kernel⟩
  refine lv_iconst hx hb dX6_init_22 ev9 ?_
  refine tr_putR Z.1 Z.2.2.2.1 Su8 hm5 tm5 rfl rfl rfl hu8 rfl (fun _ h => List.mem_cons_of_mem _ (List.mem_append_right _ h)) tyX6_ok nmX6 2 (by decide) (Nat.le_of_ble_eq_true rfl) (Or.inl rfl) (hts _ (List.mem_of_getElem? (i := 8) rfl)) dX6_init_23 rfl rfl (fun Eu10 Hu10 ku10 Su10 ou10 gu10 => ?_)
  have hu10 : Eu10 a0 = .inr (5, [.ref q3, .int v7, .int v9, .int 0, .int 0]) := gu10
  have Wu10 : Gr a0 [(30, 0), (100, 0), (101, 0), (102, 0), (103, 0), (104, 0), (105, 0), (106, 0), (107, 0), (108, 0), (109, 0), (110, 0), (111, 0), (112, 0)] L τ E Lq3 Tq3 Eu10 := Gr.wr Wu8 ou10 (Or.inl rfl)
  refine lv_aload_n hx hb dX6_init_26 rfl (lv_at hl 0 rfl) ?_
  obtain ⟨v11, ev11, tv11⟩ : ∃ v : Int32, Int32.ofInt (0) = v ∧ v.toInt = 0 := ⟨_, rfl, by decide +kernel⟩
  refine lv_iconst hx hb dX6_init_27 ev11 ?_
  refine tr_putR Z.1 Z.2.2.2.1 Su10 hm5 tm5 rfl rfl rfl hu10 rfl (fun _ h => List.mem_cons_of_mem _ (List.mem_append_right _ h)) tyX6_ok nmX6 3 (by decide) (Nat.le_of_ble_eq_true rfl) (Or.inl rfl) (hts _ (List.mem_of_getElem? (i := 9) rfl)) dX6_init_28 rfl rfl (fun Eu12 Hu12 ku12 Su12 ou12 gu12 => ?_)
  have hu12 : Eu12 a0 = .inr (5, [.ref q3, .int v7, .int v9, .int v11, .int 0]) := gu12
  have Wu12 : Gr a0 [(30, 0), (100, 0), (101, 0), (102, 0), (103, 0), (104, 0), (105, 0), (106, 0), (107, 0), (108, 0), (109, 0), (110, 0), (111, 0), (112, 0)] L τ E Lq3 Tq3 Eu12 := Gr.wr Wu10 ou12 (Or.inl rfl)
  refine lv_aload_n hx hb dX6_init_31 rfl (lv_at hl 0 rfl) ?_
  obtain ⟨v13, ev13, tv13⟩ : ∃ v : Int32, Int32.ofInt (0) = v ∧ v.toInt = 0 := ⟨_, rfl, by decide +kernel⟩
  refine lv_iconst hx hb dX6_init_32 ev13 ?_
  refine tr_putR Z.1 Z.2.2.2.1 Su12 hm5 tm5 rfl rfl rfl hu12 rfl (fun _ h => List.mem_cons_of_mem _ (List.mem_append_right _ h)) tyX6_ok nmX6 4 (by decide) (Nat.le_of_ble_eq_true rfl) (Or.inl rfl) (hts _ (List.mem_of_getElem? (i := 10) rfl)) dX6_init_33 rfl rfl (fun Eu14 Hu14 ku14 Su14 ou14 gu14 => ?_)
  have hu14 : Eu14 a0 = .inr (5, [.ref q3, .int v7, .int v9, .int v11, .int v13]) := gu14
  have Wu14 : Gr a0 [(30, 0), (100, 0), (101, 0), (102, 0), (103, 0), (104, 0), (105, 0), (106, 0), (107, 0), (108, 0), (109, 0), (110, 0), (111, 0), (112, 0)] L τ E Lq3 Tq3 Eu14 := Gr.wr Wu12 ou14 (Or.inl rfl)
  refine lv_aload_n hx hb dX6_init_36 rfl (lv_at hl 0 rfl) ?_
  refine tr_getR Z.1 Z.2.2.2.1 Su14 hm5 hu14 rfl (fun _ h => List.mem_cons_of_mem _ (List.mem_append_right _ h)) 0 (Nat.le_of_ble_eq_true rfl) rfl (hts _ (List.mem_of_getElem? (i := 6) rfl)) dX6_init_37 ?_
  obtain ⟨v15, ev15, tv15⟩ : ∃ v : Int32, (Int8.ofInt (12)).toInt32 = v ∧ v.toInt = 12 := ⟨_, rfl, by decide +kernel⟩
  refine lv_bipush hx hb dX6_init_40 ev15 ?_
  refine tr_aaldr (ra := 112) (rb := 0) Z.1 Z.2.2.2.1 Su14.1 Su14.2 dq3 eq3 rfl (row_at (w := 12) (by omega)) rfl rfl (by omega) (by omega) dX6_init_42 (fun q16 eq16 hq16 tq16 => ?_)
  have tq16 : Tq3 q16 = (112, 0) := tq16
  have fq16 : q16 ∉ L := fun z => Ab.ne hab0 (by decide) q16 z (((Wu14.2.1 q16 z (ne_ro tq16 tm5 (by decide))).symm).trans tq16)
  obtain ⟨v17, ev17, tv17⟩ : ∃ v : Int32, Int32.ofInt (1) = v ∧ v.toInt = 1 := ⟨_, rfl, by decide +kernel⟩
  refine lv_iconst hx hb dX6_init_43 ev17 ?_
  refine tc_sv Z.1 Z.2.2.2.1 Z.2.2.2.2.1 Z.2.2.2.2.2 Su14.1 (k_J7_fill_53178_v112_0 l D cy Su14.2 hq16 tq16 v17) (va_cwS 2 hts gX6_init_J7_fill_53178 rfl rfl rfl (by decide +kernel) ⟨Nat.le_of_ble_eq_true rfl, Nat.le_of_ble_eq_true rfl⟩) rfl hl.1 rfl (Nat.le_of_ble_eq_true rfl) dX6_init_44 ⟨Nat.le_of_ble_eq_true rfl, Nat.le_of_ble_eq_true rfl⟩ (fun Eu18 Hu18 ku18 wu18 iu18 Pu18 _ => ?_)
  have Su18 : NowG D cy (va_A (va_pl L _) sz) s Lq3 Tq3 Eu18 Hu18 ku18 := ⟨wu18, iu18⟩
  have hu18 : Eu18 a0 = .inr (5, [.ref q3, .int v7, .int v9, .int v11, .int v13]) := (Pu18 a0 hm5 (by rw [tm5]; rfl)).trans hu14
  have Wu18 : Gr a0 [(30, 0), (100, 0), (101, 0), (102, 0), (103, 0), (104, 0), (105, 0), (106, 0), (107, 0), (108, 0), (109, 0), (110, 0), (111, 0), (112, 0)] L τ E Lq3 Tq3 Eu18 := Gr.fr Wu14 Pu18 (fun a h => hab0.sub (by decide) a h)
  obtain ⟨v19, ev19, tv19⟩ : ∃ v : Int32, Int32.ofInt (0) = v ∧ v.toInt = 0 := ⟨_, rfl, by decide +kernel⟩
  refine lv_iconst hx hb dX6_init_47 ev19 ?_
  refine lv_istore_n (lv' := [(1, .int v19), (0, .ref a0)]) hx hb dX6_init_48 rfl hl (by decide) rfl (fun l1 hl1 => ?_)
  have J : ∀ (n : Nat) (x : Int32) (E_ : Ec) (H_ : Heap) (k_ : List Loc) (l_ : Array Slot), NowG D cy (va_A (va_pl L E) sz) s Lq3 Tq3 E_ H_ k_ → E_ a0 = .inr (5, [.ref q3, .int v7, .int v9, .int v11, .int v13]) → Gr a0 [(30, 0), (100, 0), (101, 0), (102, 0), (103, 0), (104, 0), (105, 0), (106, 0), (107, 0), (108, 0), (109, 0), (110, 0), (111, 0), (112, 0)] L τ E Lq3 Tq3 E_ → 0 ≤ x.toInt → x.toInt ≤ 66 → (66 - x.toInt).toNat < n → lv_has l_ 2 [(0, .ref a0), (1, .int x)] → W p l e { frames := 1, cells := 14, slots := 871, locals := 23 } s m args below meth c H_ k_ 14 871 QQ (F0 m 49 l_ []) := by
    intro n
    induction n with
    | zero => intro x E_ H_ k_ l_ S_ h_ W_ x0 x1 hm hl; exact absurd hm (Nat.not_lt_zero _)
    | succ n ih =>
      intro x E_ H_ k_ l_ S_ h_ W_ x0 x1 hm hl
      refine lv_iload_n hx hb dX6_init_49 rfl (lv_at hl 1 rfl) ?_
      obtain ⟨v66, ev66, tv66⟩ : ∃ v : Int32, (Int8.ofInt (66)).toInt32 = v ∧ v.toInt = 66 := ⟨_, rfl, by decide +kernel⟩
      refine lv_bipush hx hb dX6_init_50 ev66 ?_
      refine lv_icmp_ge (tgt := 73) hx hb dX6_init_52 (by decide) (fun c1 => ?_) (fun c1 => ?_)
      · skip
        have IR : Inv TB cy Lq3 (upT Tq3 a0 (5, 0)) E_ := inv_role S_.2 tm5 (by decide) (fun _ => Ab.ne Aq3 (by decide)) (fun ci ts h => by
            have h : some ((5 : Nat), ([(1, 30, 0), (0, 0, 66), (0, -2147483648, 2147483647), (0, -2147483648, 2147483647), (0, -2147483648, 2147483647)] : List Ft)) = some (ci, ts) := h
            cases h
            exact okO_of h_ ⟨⟨q3, rfl, dq3, (upT_ne (ne_ro eq3 tm5 (by decide))).trans eq3⟩, ⟨v7, rfl, by dsimp only; omega, by dsimp only; omega⟩, ⟨v9, rfl, by dsimp only; omega, by dsimp only; omega⟩, ⟨v11, rfl, by dsimp only; omega, by dsimp only; omega⟩, ⟨v13, rfl, by dsimp only; omega, by dsimp only; omega⟩, trivial⟩) (fun _ _ _ h => nomatch h) (fun _ _ _ h => nomatch h)
        rw [← hQ]
        exact en_vG Z ⟨S_.1, IR⟩ (post := fun _ T9 _ => T9 a0 = (5, 0)) (Gr.role W_ ha0) (upT_self _ _ _) dX6_init_73
      · skip
        have tc1 := nu_nle c1
        refine lv_aload_n hx hb dX6_init_55 rfl (lv_at hl 0 rfl) ?_
        refine tr_getR Z.1 Z.2.2.2.1 S_ hm5 h_ rfl (fun _ h => List.mem_cons_of_mem _ (List.mem_append_right _ h)) 0 (by decide) rfl (hts _ (List.mem_of_getElem? (i := 6) rfl)) dX6_init_56 ?_
        obtain ⟨v11, ev11, tv11⟩ : ∃ v : Int32, (Int8.ofInt (11)).toInt32 = v ∧ v.toInt = 11 := ⟨_, rfl, by decide +kernel⟩
        refine lv_bipush hx hb dX6_init_59 ev11 ?_
        refine tr_aaldr (ra := 111) (rb := 0) Z.1 Z.2.2.2.1 S_.1 S_.2 dq3 eq3 rfl (row_at (w := 11) (by omega)) rfl rfl (by omega) (by omega) dX6_init_61 (fun qr er hr tr => ?_)
        have tr : Tq3 qr = (111, 0) := tr
        have fr : qr ∉ L := fun z => Ab.ne hab0 (by decide) qr z (((W_.2.1 qr z (ne_ro tr tm5 (by decide))).symm).trans tr)
        refine lv_iload_n hx hb dX6_init_62 rfl (lv_at hl 1 rfl) ?_
        refine lv_iload_n hx hb dX6_init_63 rfl (lv_at hl 1 rfl) ?_
        obtain ⟨v1, ev1, tv1⟩ : ∃ v : Int32, Int32.ofInt (1) = v ∧ v.toInt = 1 := ⟨_, rfl, by decide +kernel⟩
        refine lv_iconst hx hb dX6_init_64 ev1 ?_
        refine lv_iadd hx hb dX6_init_65 ?_
        refine lv_topi (fun vs evs => ?_)
        refine tr_iast Z.1 Z.2.2.2.1 S_.1 S_.2 hr tr rfl (by omega) (by omega) (by have := fb_rng vs; omega) (by have := fb_rng vs; omega) dX6_init_66 (fun E2 H2 k2 w2 i2 P2 => ?_)
        obtain ⟨y, ey⟩ : ∃ y : Int32, x + Int32.ofInt (1) = y := ⟨_, rfl⟩
        have ty : y.toInt = x.toInt + 1 := by rw [← ey]; exact (fb_addI (by rw [show (Int32.ofInt (1)).toInt = 1 from by decide +kernel]; omega) (by rw [show (Int32.ofInt (1)).toInt = 1 from by decide +kernel]; omega)).trans (by rw [show (Int32.ofInt (1)).toInt = 1 from by decide +kernel])
        refine lv_iinc (v := y) (lv' := [(1, .int y), (0, .ref a0)]) hx hb dX6_init_67 hl (k := 1) rfl ey (by decide) rfl (fun l3 hl3 => ?_)
        refine lv_goto (tgt := 49) hx hb dX6_init_70 (by decide) ?_
        exact ih y E2 H2 k2 l3 ⟨w2, i2⟩ ((P2.1 a0 (ne_ro tm5 tr (by decide))).trans h_) (Gr.wr W_ P2.1 (Or.inr fr)) (by omega) (by omega) (by omega) (lv_sub hl3 [1, 0] rfl)
  exact J _ v19 Eu18 Hu18 ku18 l1 Su18 hu18 Wu18 (by omega) (by omega) (Nat.lt_succ_self _) (lv_sub hl1 [1, 0] rfl)


set_option maxHeartbeats 4000000 in
set_option maxRecDepth 100000 in
theorem k_X6_init_1 (l : Launch) (D : va_G) (cy : Nat → ClassId) {L : List Nat} {τ : Nat → Ro} {E : Ec} (hI : Inv TB cy L τ E) {a0 : Nat} (ha0 : a0 ∈ L) (ta0 : τ a0 = (205, 1)) (he0 : E a0 = .inr (5, [.null, .int 0, .int 0, .int 0, .int 0])) (hab0 : Ab L τ [(5, 1), (30, 1), (100, 1), (101, 1), (102, 1), (103, 1), (104, 1), (105, 1), (106, 1), (107, 1), (108, 1), (109, 1), (110, 1), (111, 1), (112, 1)]) : CtG l yX6_init wsX6_init { frames := 1, cells := 14, slots := 871, locals := 23 } D cy L τ E [.ref a0] a0 [(30, 1), (100, 1), (101, 1), (102, 1), (103, 1), (104, 1), (105, 1), (106, 1), (107, 1), (108, 1), (109, 1), (110, 1), (111, 1), (112, 1)] 14 871 (fun L' τ' E' => τ' a0 = (5, 1)) := by
  intro sz
  refine staG (cc := cX6_init) (maxL := 2) hI (by decide) rfl (Nat.le_of_ble_eq_true rfl) (fun p e s m args below meth c ls hsz hnm Z hO S0 hl => ?_)
  have hx := Z.1.1
  have hb := Z.1.2.1
  have hts := Z.1.2.2.2.2
  have hnm : meth.name = "<init>" := hnm
  have G0 : Gr a0 [] L τ E L τ E := Gr.refl
  have hl : lv_has ls 2 [(0, .ref a0)] := hl
  generalize hQ : MQ below _ args s _ _ _ = QQ
  refine lv_aload_n hx hb dX6_init_0 rfl (lv_at hl 0 rfl) ?_
  refine tr_obj Z.1 hl.1 (hts _ (List.mem_of_getElem? (i := 1) rfl)) (hts _ (List.mem_of_getElem? (i := 2) rfl)) (hts _ (List.mem_of_getElem? (i := 3) rfl)) dX6_init_1 (Nat.le_of_ble_eq_true rfl) (Nat.le_of_ble_eq_true rfl) ?_
  refine lv_aload_n hx hb dX6_init_4 rfl (lv_at hl 0 rfl) ?_
  obtain ⟨v1, ev1, tv1⟩ : ∃ v : Int32, (Int8.ofInt (13)).toInt32 = v ∧ v.toInt = 13 := ⟨_, rfl, by decide +kernel⟩
  refine lv_bipush hx hb dX6_init_5 ev1 ?_
  obtain ⟨v2, ev2, tv2⟩ : ∃ v : Int32, (Int8.ofInt (66)).toInt32 = v ∧ v.toInt = 66 := ⟨_, rfl, by decide +kernel⟩
  refine lv_bipush hx hb dX6_init_7 ev2 ?_
  have nq3 : ∀ b ∈ L, ∀ j : Nat, j ≤ 12 → τ b ≠ (100 + j, 1) := fun b hb j hj => Ab.ne hab0 (inW_row hj (by decide)) b hb
  refine tr_mna Z.1 Z.2.2.2.1 Z.2.2.2.2.2 hO S0 (hts _ (List.mem_of_getElem? (i := 4) rfl)) (hts _ (List.mem_of_getElem? (i := 5) rfl)) (by omega) (by omega) 1 nq3 (Ab.ne hab0 (by decide)) (Nat.le_of_ble_eq_true rfl) (Nat.le_of_ble_eq_true rfl) dX6_init_9 (fun Lq3 Tq3 Eq3 q3 Hq3 Sq3 aq3 bq3 cq3 dq3 eq3 fq3 gq3 => ?_)
  have Wq3 : Gr a0 [(30, 1), (100, 1), (101, 1), (102, 1), (103, 1), (104, 1), (105, 1), (106, 1), (107, 1), (108, 1), (109, 1), (110, 1), (111, 1), (112, 1)] L τ E Lq3 Tq3 Eq3 := ⟨fun a h => aq3 a (G0.1 a h), fun a h hx => (bq3 a (G0.1 a h)).trans (G0.2.1 a h hx), fun a h hx => (cq3 a (G0.1 a h)).trans (G0.2.2.1 a h hx), fun b hb => by
      rcases gq3 b hb with z | z | ⟨j, hj, z⟩
      · exact Or.inl z
      · exact Or.inr (by rw [z]; decide)
      · exact Or.inr (by rw [z]; exact inW_row hj (by decide))⟩
  have f4 : q3 ∉ L := fq3
  have Aq3 : Ab Lq3 Tq3 [(5, 1)] := fun b hb => by
      rcases gq3 b hb with z | z | ⟨j, hj, z⟩
      · rw [bq3 b z]; exact hab0.sub (by decide) b z
      · rw [z]; rfl
      · rw [z]; exact row_out hj
  have hq3 : Eq3 a0 = .inr (5, [.null, .int 0, .int 0, .int 0, .int 0]) := (cq3 a0 ha0).trans he0
  have hm5 : a0 ∈ Lq3 := aq3 _ ha0
  have tm5 : Tq3 a0 = (205, 1) := (bq3 _ ha0).trans ta0
  refine tr_putR Z.1 Z.2.2.2.1 Sq3 hm5 tm5 rfl rfl rfl hq3 rfl (fun _ h => List.mem_cons_of_mem _ (List.mem_append_right _ h)) tyX6_ok nmX6 0 (by decide) (Nat.le_of_ble_eq_true rfl) (Or.inr ⟨hnm, rfl, rfl⟩) (hts _ (List.mem_of_getElem? (i := 6) rfl)) dX6_init_13 rfl rfl (fun Eu6 Hu6 ku6 Su6 ou6 gu6 => ?_)
  have hu6 : Eu6 a0 = .inr (5, [.ref q3, .int 0, .int 0, .int 0, .int 0]) := gu6
  have Wu6 : Gr a0 [(30, 1), (100, 1), (101, 1), (102, 1), (103, 1), (104, 1), (105, 1), (106, 1), (107, 1), (108, 1), (109, 1), (110, 1), (111, 1), (112, 1)] L τ E Lq3 Tq3 Eu6 := Gr.wr Wq3 ou6 (Or.inl rfl)
  refine lv_aload_n hx hb dX6_init_16 rfl (lv_at hl 0 rfl) ?_
  obtain ⟨v7, ev7, tv7⟩ : ∃ v : Int32, Int32.ofInt (0) = v ∧ v.toInt = 0 := ⟨_, rfl, by decide +kernel⟩
  refine lv_iconst hx hb dX6_init_17 ev7 ?_
  refine tr_putR Z.1 Z.2.2.2.1 Su6 hm5 tm5 rfl rfl rfl hu6 rfl (fun _ h => List.mem_cons_of_mem _ (List.mem_append_right _ h)) tyX6_ok nmX6 1 (by decide) (Nat.le_of_ble_eq_true rfl) (Or.inl rfl) (hts _ (List.mem_of_getElem? (i := 7) rfl)) dX6_init_18 rfl rfl (fun Eu8 Hu8 ku8 Su8 ou8 gu8 => ?_)
  have hu8 : Eu8 a0 = .inr (5, [.ref q3, .int v7, .int 0, .int 0, .int 0]) := gu8
  have Wu8 : Gr a0 [(30, 1), (100, 1), (101, 1), (102, 1), (103, 1), (104, 1), (105, 1), (106, 1), (107, 1), (108, 1), (109, 1), (110, 1), (111, 1), (112, 1)] L τ E Lq3 Tq3 Eu8 := Gr.wr Wu6 ou8 (Or.inl rfl)
  refine lv_aload_n hx hb dX6_init_21 rfl (lv_at hl 0 rfl) ?_
  obtain ⟨v9, ev9, tv9⟩ : ∃ v : Int32, Int32.ofInt (1) = v ∧ v.toInt = 1 := ⟨_, rfl, by decide +kernel⟩
  refine lv_iconst hx hb dX6_init_22 ev9 ?_
  refine tr_putR Z.1 Z.2.2.2.1 Su8 hm5 tm5 rfl rfl rfl hu8 rfl (fun _ h => List.mem_cons_of_mem _ (List.mem_append_right _ h)) tyX6_ok nmX6 2 (by decide) (Nat.le_of_ble_eq_true rfl) (Or.inl rfl) (hts _ (List.mem_of_getElem? (i := 8) rfl)) dX6_init_23 rfl rfl (fun Eu10 Hu10 ku10 Su10 ou10 gu10 => ?_)
  have hu10 : Eu10 a0 = .inr (5, [.ref q3, .int v7, .int v9, .int 0, .int 0]) := gu10
  have Wu10 : Gr a0 [(30, 1), (100, 1), (101, 1), (102, 1), (103, 1), (104, 1), (105, 1), (106, 1), (107, 1), (108, 1), (109, 1), (110, 1), (111, 1), (112, 1)] L τ E Lq3 Tq3 Eu10 := Gr.wr Wu8 ou10 (Or.inl rfl)
  refine lv_aload_n hx hb dX6_init_26 rfl (lv_at hl 0 rfl) ?_
  obtain ⟨v11, ev11, tv11⟩ : ∃ v : Int32, Int32.ofInt (0) = v ∧ v.toInt = 0 := ⟨_, rfl, by decide +kernel⟩
  refine lv_iconst hx hb dX6_init_27 ev11 ?_
  refine tr_putR Z.1 Z.2.2.2.1 Su10 hm5 tm5 rfl rfl rfl hu10 rfl (fun _ h => List.mem_cons_of_mem _ (List.mem_append_right _ h)) tyX6_ok nmX6 3 (by decide) (Nat.le_of_ble_eq_true rfl) (Or.inl rfl) (hts _ (List.mem_of_getElem? (i := 9) rfl)) dX6_init_28 rfl rfl (fun Eu12 Hu12 ku12 Su12 ou12 gu12 => ?_)
  have hu12 : Eu12 a0 = .inr (5, [.ref q3, .int v7, .int v9, .int v11, .int 0]) := gu12
  have Wu12 : Gr a0 [(30, 1), (100, 1), (101, 1), (102, 1), (103, 1), (104, 1), (105, 1), (106, 1), (107, 1), (108, 1), (109, 1), (110, 1), (111, 1), (112, 1)] L τ E Lq3 Tq3 Eu12 := Gr.wr Wu10 ou12 (Or.inl rfl)
  refine lv_aload_n hx hb dX6_init_31 rfl (lv_at hl 0 rfl) ?_
  obtain ⟨v13, ev13, tv13⟩ : ∃ v : Int32, Int32.ofInt (0) = v ∧ v.toInt = 0 := ⟨_, rfl, by decide +kernel⟩
  refine lv_iconst hx hb dX6_init_32 ev13 ?_
  refine tr_putR Z.1 Z.2.2.2.1 Su12 hm5 tm5 rfl rfl rfl hu12 rfl (fun _ h => List.mem_cons_of_mem _ (List.mem_append_right _ h)) tyX6_ok nmX6 4 (by decide) (Nat.le_of_ble_eq_true rfl) (Or.inl rfl) (hts _ (List.mem_of_getElem? (i := 10) rfl)) dX6_init_33 rfl rfl (fun Eu14 Hu14 ku14 Su14 ou14 gu14 => ?_)
  have hu14 : Eu14 a0 = .inr (5, [.ref q3, .int v7, .int v9, .int v11, .int v13]) := gu14
  have Wu14 : Gr a0 [(30, 1), (100, 1), (101, 1), (102, 1), (103, 1), (104, 1), (105, 1), (106, 1), (107, 1), (108, 1), (109, 1), (110, 1), (111, 1), (112, 1)] L τ E Lq3 Tq3 Eu14 := Gr.wr Wu12 ou14 (Or.inl rfl)
  refine lv_aload_n hx hb dX6_init_36 rfl (lv_at hl 0 rfl) ?_
  refine tr_getR Z.1 Z.2.2.2.1 Su14 hm5 hu14 rfl (fun _ h => List.mem_cons_of_mem _ (List.mem_append_right _ h)) 0 (Nat.le_of_ble_eq_true rfl) rfl (hts _ (List.mem_of_getElem? (i := 6) rfl)) dX6_init_37 ?_
  obtain ⟨v15, ev15, tv15⟩ : ∃ v : Int32, (Int8.ofInt (12)).toInt32 = v ∧ v.toInt = 12 := ⟨_, rfl, by decide +kernel⟩
  refine lv_bipush hx hb dX6_init_40 ev15 ?_
  refine tr_aaldr (ra := 112) (rb := 1) Z.1 Z.2.2.2.1 Su14.1 Su14.2 dq3 eq3 rfl (row_at (w := 12) (by omega)) rfl rfl (by omega) (by omega) dX6_init_42 (fun q16 eq16 hq16 tq16 => ?_)
  have tq16 : Tq3 q16 = (112, 1) := tq16
  have fq16 : q16 ∉ L := fun z => Ab.ne hab0 (by decide) q16 z (((Wu14.2.1 q16 z (ne_ro tq16 tm5 (by decide))).symm).trans tq16)
  obtain ⟨v17, ev17, tv17⟩ : ∃ v : Int32, Int32.ofInt (1) = v ∧ v.toInt = 1 := ⟨_, rfl, by decide +kernel⟩
  refine lv_iconst hx hb dX6_init_43 ev17 ?_
  refine tc_sv Z.1 Z.2.2.2.1 Z.2.2.2.2.1 Z.2.2.2.2.2 Su14.1 (k_J7_fill_53178_v112_1 l D cy Su14.2 hq16 tq16 v17) (va_cwS 2 hts gX6_init_J7_fill_53178 rfl rfl rfl (by decide +kernel) ⟨Nat.le_of_ble_eq_true rfl, Nat.le_of_ble_eq_true rfl⟩) rfl hl.1 rfl (Nat.le_of_ble_eq_true rfl) dX6_init_44 ⟨Nat.le_of_ble_eq_true rfl, Nat.le_of_ble_eq_true rfl⟩ (fun Eu18 Hu18 ku18 wu18 iu18 Pu18 _ => ?_)
  have Su18 : NowG D cy (va_A (va_pl L _) sz) s Lq3 Tq3 Eu18 Hu18 ku18 := ⟨wu18, iu18⟩
  have hu18 : Eu18 a0 = .inr (5, [.ref q3, .int v7, .int v9, .int v11, .int v13]) := (Pu18 a0 hm5 (by rw [tm5]; rfl)).trans hu14
  have Wu18 : Gr a0 [(30, 1), (100, 1), (101, 1), (102, 1), (103, 1), (104, 1), (105, 1), (106, 1), (107, 1), (108, 1), (109, 1), (110, 1), (111, 1), (112, 1)] L τ E Lq3 Tq3 Eu18 := Gr.fr Wu14 Pu18 (fun a h => hab0.sub (by decide) a h)
  obtain ⟨v19, ev19, tv19⟩ : ∃ v : Int32, Int32.ofInt (0) = v ∧ v.toInt = 0 := ⟨_, rfl, by decide +kernel⟩
  refine lv_iconst hx hb dX6_init_47 ev19 ?_
  refine lv_istore_n (lv' := [(1, .int v19), (0, .ref a0)]) hx hb dX6_init_48 rfl hl (by decide) rfl (fun l1 hl1 => ?_)
  have J : ∀ (n : Nat) (x : Int32) (E_ : Ec) (H_ : Heap) (k_ : List Loc) (l_ : Array Slot), NowG D cy (va_A (va_pl L E) sz) s Lq3 Tq3 E_ H_ k_ → E_ a0 = .inr (5, [.ref q3, .int v7, .int v9, .int v11, .int v13]) → Gr a0 [(30, 1), (100, 1), (101, 1), (102, 1), (103, 1), (104, 1), (105, 1), (106, 1), (107, 1), (108, 1), (109, 1), (110, 1), (111, 1), (112, 1)] L τ E Lq3 Tq3 E_ → 0 ≤ x.toInt → x.toInt ≤ 66 → (66 - x.toInt).toNat < n → lv_has l_ 2 [(0, .ref a0), (1, .int x)] → W p l e { frames := 1, cells := 14, slots := 871, locals := 23 } s m args below meth c H_ k_ 14 871 QQ (F0 m 49 l_ []) := by
    intro n
    induction n with
    | zero => intro x E_ H_ k_ l_ S_ h_ W_ x0 x1 hm hl; exact absurd hm (Nat.not_lt_zero _)
    | succ n ih =>
      intro x E_ H_ k_ l_ S_ h_ W_ x0 x1 hm hl
      refine lv_iload_n hx hb dX6_init_49 rfl (lv_at hl 1 rfl) ?_
      obtain ⟨v66, ev66, tv66⟩ : ∃ v : Int32, (Int8.ofInt (66)).toInt32 = v ∧ v.toInt = 66 := ⟨_, rfl, by decide +kernel⟩
      refine lv_bipush hx hb dX6_init_50 ev66 ?_
      refine lv_icmp_ge (tgt := 73) hx hb dX6_init_52 (by decide) (fun c1 => ?_) (fun c1 => ?_)
      · skip
        have IR : Inv TB cy Lq3 (upT Tq3 a0 (5, 1)) E_ := inv_role S_.2 tm5 (by decide) (fun _ => Ab.ne Aq3 (by decide)) (fun ci ts h => by
            have h : some ((5 : Nat), ([(1, 30, 1), (0, 0, 66), (0, -2147483648, 2147483647), (0, -2147483648, 2147483647), (0, -2147483648, 2147483647)] : List Ft)) = some (ci, ts) := h
            cases h
            exact okO_of h_ ⟨⟨q3, rfl, dq3, (upT_ne (ne_ro eq3 tm5 (by decide))).trans eq3⟩, ⟨v7, rfl, by dsimp only; omega, by dsimp only; omega⟩, ⟨v9, rfl, by dsimp only; omega, by dsimp only; omega⟩, ⟨v11, rfl, by dsimp only; omega, by dsimp only; omega⟩, ⟨v13, rfl, by dsimp only; omega, by dsimp only; omega⟩, trivial⟩) (fun _ _ _ h => nomatch h) (fun _ _ _ h => nomatch h)
        rw [← hQ]
        exact en_vG Z ⟨S_.1, IR⟩ (post := fun _ T9 _ => T9 a0 = (5, 1)) (Gr.role W_ ha0) (upT_self _ _ _) dX6_init_73
      · skip
        have tc1 := nu_nle c1
        refine lv_aload_n hx hb dX6_init_55 rfl (lv_at hl 0 rfl) ?_
        refine tr_getR Z.1 Z.2.2.2.1 S_ hm5 h_ rfl (fun _ h => List.mem_cons_of_mem _ (List.mem_append_right _ h)) 0 (by decide) rfl (hts _ (List.mem_of_getElem? (i := 6) rfl)) dX6_init_56 ?_
        obtain ⟨v11, ev11, tv11⟩ : ∃ v : Int32, (Int8.ofInt (11)).toInt32 = v ∧ v.toInt = 11 := ⟨_, rfl, by decide +kernel⟩
        refine lv_bipush hx hb dX6_init_59 ev11 ?_
        refine tr_aaldr (ra := 111) (rb := 1) Z.1 Z.2.2.2.1 S_.1 S_.2 dq3 eq3 rfl (row_at (w := 11) (by omega)) rfl rfl (by omega) (by omega) dX6_init_61 (fun qr er hr tr => ?_)
        have tr : Tq3 qr = (111, 1) := tr
        have fr : qr ∉ L := fun z => Ab.ne hab0 (by decide) qr z (((W_.2.1 qr z (ne_ro tr tm5 (by decide))).symm).trans tr)
        refine lv_iload_n hx hb dX6_init_62 rfl (lv_at hl 1 rfl) ?_
        refine lv_iload_n hx hb dX6_init_63 rfl (lv_at hl 1 rfl) ?_
        obtain ⟨v1, ev1, tv1⟩ : ∃ v : Int32, Int32.ofInt (1) = v ∧ v.toInt = 1 := ⟨_, rfl, by decide +kernel⟩
        refine lv_iconst hx hb dX6_init_64 ev1 ?_
        refine lv_iadd hx hb dX6_init_65 ?_
        refine lv_topi (fun vs evs => ?_)
        refine tr_iast Z.1 Z.2.2.2.1 S_.1 S_.2 hr tr rfl (by omega) (by omega) (by have := fb_rng vs; omega) (by have := fb_rng vs; omega) dX6_init_66 (fun E2 H2 k2 w2 i2 P2 => ?_)
        obtain ⟨y, ey⟩ : ∃ y : Int32, x + Int32.ofInt (1) = y := ⟨_, rfl⟩
        have ty : y.toInt = x.toInt + 1 := by rw [← ey]; exact (fb_addI (by rw [show (Int32.ofInt (1)).toInt = 1 from by decide +kernel]; omega) (by rw [show (Int32.ofInt (1)).toInt = 1 from by decide +kernel]; omega)).trans (by rw [show (Int32.ofInt (1)).toInt = 1 from by decide +kernel])
        refine lv_iinc (v := y) (lv' := [(1, .int y), (0, .ref a0)]) hx hb dX6_init_67 hl (k := 1) rfl ey (by decide) rfl (fun l3 hl3 => ?_)
        refine lv_goto (tgt := 49) hx hb dX6_init_70 (by decide) ?_
        exact ih y E2 H2 k2 l3 ⟨w2, i2⟩ ((P2.1 a0 (ne_ro tm5 tr (by decide))).trans h_) (Gr.wr W_ P2.1 (Or.inr fr)) (by omega) (by omega) (by omega) (lv_sub hl3 [1, 0] rfl)
  exact J _ v19 Eu18 Hu18 ku18 l1 Su18 hu18 Wu18 (by omega) (by omega) (Nat.lt_succ_self _) (lv_sub hl1 [1, 0] rfl)

