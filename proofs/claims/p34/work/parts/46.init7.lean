set_option maxRecDepth 20000 in
theorem ggX7_init_X4_init : GoodIn wsX7_init wsX4_init := goodIn_r _ [27, 28, 2, 3, 29, 30, 31, 32, 33, 34, 35, 36, 16, 37, 38, 39, 40, 41, 42, 43, 44, 45, 67, 68, 69, 70, 71, 72, 73, 74, 75, 76, 77, 78, 79, 80, 81, 82] (by decide +kernel) (by decide +kernel)
set_option maxRecDepth 20000 in
theorem gX7_init_X4_init : GoodIn wsX7_init (wsX4_init) := ggX7_init_X4_init
set_option maxRecDepth 20000 in
theorem ggX7_init_X6_init : GoodIn wsX7_init wsX6_init := goodIn_r _ [48, 49, 2, 3, 50, 16, 51, 52, 53, 54, 55, 56, 57, 58, 59, 94, 95, 96, 97, 98] (by decide +kernel) (by decide +kernel)
set_option maxRecDepth 20000 in
theorem gX7_init_X6_init : GoodIn wsX7_init (wsX6_init) := ggX7_init_X6_init
set_option maxRecDepth 20000 in
theorem ggX7_init_X8_init : GoodIn wsX7_init wsX8_init := goodIn_r _ [61, 62, 2, 3, 63, 64, 65, 66, 99, 100, 101, 102] (by decide +kernel) (by decide +kernel)
set_option maxRecDepth 20000 in
theorem gX7_init_X8_init_n27 : GoodIn wsX7_init (wsX8_init) := ggX7_init_X8_init
theorem dX7_init_0 : decode cX7_init 0 = .ok (.aload_n 0, 1) := by decide +kernel
theorem dX7_init_1 : decode cX7_init 1 = .ok (.invokespecial 3, 3) := by decide +kernel
theorem dX7_init_4 : decode cX7_init 4 = .ok (.aload_n 0, 1) := by decide +kernel
theorem dX7_init_5 : decode cX7_init 5 = .ok (.new 9, 3) := by decide +kernel
theorem dX7_init_8 : decode cX7_init 8 = .ok (.dup, 1) := by decide +kernel
theorem dX7_init_9 : decode cX7_init 9 = .ok (.invokespecial 11, 3) := by decide +kernel
theorem dX7_init_12 : decode cX7_init 12 = .ok (.putfield 12, 3) := by decide +kernel
theorem dX7_init_15 : decode cX7_init 15 = .ok (.aload_n 0, 1) := by decide +kernel
theorem dX7_init_16 : decode cX7_init 16 = .ok (.new 18, 3) := by decide +kernel
theorem dX7_init_19 : decode cX7_init 19 = .ok (.dup, 1) := by decide +kernel
theorem dX7_init_20 : decode cX7_init 20 = .ok (.invokespecial 20, 3) := by decide +kernel
theorem dX7_init_23 : decode cX7_init 23 = .ok (.putfield 21, 3) := by decide +kernel
theorem dX7_init_26 : decode cX7_init 26 = .ok (.aload_n 0, 1) := by decide +kernel
theorem dX7_init_27 : decode cX7_init 27 = .ok (.new 25, 3) := by decide +kernel
theorem dX7_init_30 : decode cX7_init 30 = .ok (.dup, 1) := by decide +kernel
theorem dX7_init_31 : decode cX7_init 31 = .ok (.invokespecial 27, 3) := by decide +kernel
theorem dX7_init_34 : decode cX7_init 34 = .ok (.putfield 28, 3) := by decide +kernel
theorem dX7_init_37 : decode cX7_init 37 = .ok (.aload_n 0, 1) := by decide +kernel
theorem dX7_init_38 : decode cX7_init 38 = .ok (.sipush 200, 3) := by decide +kernel
theorem dX7_init_41 : decode cX7_init 41 = .ok (.newarray .int, 2) := by decide +kernel
theorem dX7_init_43 : decode cX7_init 43 = .ok (.putfield 32, 3) := by decide +kernel
theorem dX7_init_46 : decode cX7_init 46 = .ok (.aload_n 0, 1) := by decide +kernel
theorem dX7_init_47 : decode cX7_init 47 = .ok (.iconst 3, 1) := by decide +kernel
theorem dX7_init_48 : decode cX7_init 48 = .ok (.newarray .int, 2) := by decide +kernel
theorem dX7_init_50 : decode cX7_init 50 = .ok (.putfield 36, 3) := by decide +kernel
theorem dX7_init_53 : decode cX7_init 53 = .ok (.aload_n 0, 1) := by decide +kernel
theorem dX7_init_54 : decode cX7_init 54 = .ok (.iconst 0, 1) := by decide +kernel
theorem dX7_init_55 : decode cX7_init 55 = .ok (.putfield 39, 3) := by decide +kernel
theorem dX7_init_58 : decode cX7_init 58 = .ok (.aload_n 0, 1) := by decide +kernel
theorem dX7_init_59 : decode cX7_init 59 = .ok (.iconst 0, 1) := by decide +kernel
theorem dX7_init_60 : decode cX7_init 60 = .ok (.putfield 43, 3) := by decide +kernel
theorem dX7_init_63 : decode cX7_init 63 = .ok (.aload_n 0, 1) := by decide +kernel
theorem dX7_init_64 : decode cX7_init 64 = .ok (.iconst 0, 1) := by decide +kernel
theorem dX7_init_65 : decode cX7_init 65 = .ok (.putfield 47, 3) := by decide +kernel
theorem dX7_init_68 : decode cX7_init 68 = .ok (.aload_n 0, 1) := by decide +kernel
theorem dX7_init_69 : decode cX7_init 69 = .ok (.iconst 0, 1) := by decide +kernel
theorem dX7_init_70 : decode cX7_init 70 = .ok (.putfield 50, 3) := by decide +kernel
theorem dX7_init_73 : decode cX7_init 73 = .ok (.aload_n 0, 1) := by decide +kernel
theorem dX7_init_74 : decode cX7_init 74 = .ok (.iconst 0, 1) := by decide +kernel
theorem dX7_init_75 : decode cX7_init 75 = .ok (.putfield 53, 3) := by decide +kernel
theorem dX7_init_78 : decode cX7_init 78 = .ok (.aload_n 0, 1) := by decide +kernel
theorem dX7_init_79 : decode cX7_init 79 = .ok (.iconst 0, 1) := by decide +kernel
theorem dX7_init_80 : decode cX7_init 80 = .ok (.putfield 56, 3) := by decide +kernel
theorem dX7_init_83 : decode cX7_init 83 = .ok (.return_, 1) := by decide +kernel
set_option maxHeartbeats 4000000 in
set_option maxRecDepth 100000 in
theorem k_X7_init_0 (l : Launch) (D : va_G) (cy : Nat → ClassId) {L : List Nat} {τ : Nat → Ro} {E : Ec} (hI : Inv TB cy L τ E) {a0 : Nat} (ha0 : a0 ∈ L) (ta0 : τ a0 = (208, 0)) (he0 : E a0 = .inr (6, [.null, .null, .null, .null, .null, .int 0, .int 0, .int 0, .int 0, .int 0, .int 0])) (hab0 : Ab L τ [(8, 0), (201, 2), (1, 2), (20, 2), (21, 2), (22, 2), (23, 2), (24, 2), (25, 2), (26, 2), (27, 2), (205, 1), (5, 1), (30, 1), (100, 1), (101, 1), (102, 1), (103, 1), (104, 1), (105, 1), (106, 1), (107, 1), (108, 1), (109, 1), (110, 1), (111, 1), (112, 1), (206, 1), (6, 1), (37, 0), (38, 0)]) : CtG l yX7_init wsX7_init { frames := 2, cells := 27, slots := 1144, locals := 44 } D cy L τ E [.ref a0] a0 [(38, 0), (37, 0), (6, 1), (5, 1), (30, 1), (100, 1), (101, 1), (102, 1), (103, 1), (104, 1), (105, 1), (106, 1), (107, 1), (108, 1), (109, 1), (110, 1), (111, 1), (112, 1), (1, 2), (27, 2), (26, 2), (25, 2), (24, 2), (23, 2), (22, 2), (21, 2), (20, 2)] 27 1144 (fun L' τ' E' => τ' a0 = (8, 0)) := by
  intro sz
  refine staG (cc := cX7_init) (maxL := 1) hI (by decide) rfl (Nat.le_of_ble_eq_true rfl) (fun p e s m args below meth c ls hsz hnm Z hO S0 hl => ?_)
  have hx := Z.1.1
  have hb := Z.1.2.1
  have hts := Z.1.2.2.2.2
  have hnm : meth.name = "<init>" := hnm
  have G0 : Gr a0 [] L τ E L τ E := Gr.refl
  have hl : lv_has ls 1 [(0, .ref a0)] := hl
  refine lv_aload_n hx hb dX7_init_0 rfl (lv_at hl 0 rfl) ?_
  refine tr_obj Z.1 hl.1 (hts _ (List.mem_of_getElem? (i := 1) rfl)) (hts _ (List.mem_of_getElem? (i := 2) rfl)) (hts _ (List.mem_of_getElem? (i := 3) rfl)) dX7_init_1 (Nat.le_of_ble_eq_true rfl) (Nat.le_of_ble_eq_true rfl) ?_
  refine lv_aload_n hx hb dX7_init_4 rfl (lv_at hl 0 rfl) ?_
  refine tr_new Z.1 Z.2.2.2.1 Z.2.2.2.2.2 S0 (fun _ h => List.mem_cons_of_mem _ (List.mem_append_left _ (List.mem_append_left _ (List.mem_append_left _ (List.mem_append_right _ h))))) tyX4 tyX4_ok (hts _ (List.mem_of_getElem? (i := 4) rfl)) (hts _ (List.mem_of_getElem? (i := 5) rfl)) (hts _ (List.mem_of_getElem? (i := 6) rfl)) (ci := 3) rfl (fs := [.int 0, .int 0, .int 0, .int 0, .int 0, .int 0, .int 0, .int 0, .null, .null, .null, .null, .null, .null, .null, .null]) (by decide +kernel) (201, 2) rfl rfl rfl (Ab.ne hab0 (by decide)) (Nat.le_of_ble_eq_true rfl) (Nat.le_of_ble_eq_true rfl) dX7_init_5 (fun Lq1 Tq1 Eq1 q1 Hq1 Sq1 Pq1 gq1 => ?_)
  have Wq1 : Gr a0 [(201, 2)] L τ E Lq1 Tq1 Eq1 := Gr.push G0 Pq1
  have f2 : q1 ∉ L := Gr.fresh G0 Pq1
  have Aq1 : Ab Lq1 Tq1 [(8, 0), (1, 2), (20, 2), (21, 2), (22, 2), (23, 2), (24, 2), (25, 2), (26, 2), (27, 2), (205, 1), (5, 1), (30, 1), (100, 1), (101, 1), (102, 1), (103, 1), (104, 1), (105, 1), (106, 1), (107, 1), (108, 1), (109, 1), (110, 1), (111, 1), (112, 1), (206, 1), (6, 1), (37, 0), (38, 0)] := Ab.push hab0 Pq1 (by decide) (by decide)
  have eq1 : Eq1 a0 = .inr (6, [.null, .null, .null, .null, .null, .int 0, .int 0, .int 0, .int 0, .int 0, .int 0]) := (Pq1.2.2.1 a0 ha0).trans he0
  have hm3 : a0 ∈ Lq1 := Pq1.1 _ ha0
  have tm3 : Tq1 a0 = (208, 0) := (Pq1.2.1 _ ha0).trans ta0
  refine lv_dup hx hb dX7_init_8 rfl ?_
  refine tc_I Z.1 Z.2.2.2.1 Z.2.2.2.2.1 Z.2.2.2.2.2 hO Sq1 (k_X4_init_2 l D cy Sq1.2 Pq1.2.2.2.1 Pq1.2.2.2.2.1 gq1 (Aq1.sub (by decide))) (cwI 0 hts gX7_init_X4_init rfl rfl rfl (hts _ (List.mem_of_getElem? (i := 6) rfl)) (hts _ (List.mem_of_getElem? (i := 25) rfl)) (hts _ (List.mem_of_getElem? (i := 26) rfl)) rfl (by decide +kernel) ⟨Nat.le_of_ble_eq_true rfl, Nat.le_of_ble_eq_true rfl⟩) rfl hl.1 rfl (Nat.le_of_ble_eq_true rfl) dX7_init_9 ⟨Nat.le_of_ble_eq_true rfl, Nat.le_of_ble_eq_true rfl⟩ (fun Lc4 Tc4 Ec4 Hc4 kc4 Sc4 Gc4 pc4 => ?_)
  have f5 : q1 ∉ L := Gr.fresh G0 Pq1
  have Wc4 : Gr a0 [(1, 2), (27, 2), (26, 2), (25, 2), (24, 2), (23, 2), (22, 2), (21, 2), (20, 2)] L τ E Lc4 Tc4 Ec4 := Gr.call Wq1 Gc4 f5 pc4 (Gr.one G0 Pq1)
  have Ac4 : Ab Lc4 Tc4 [(8, 0), (205, 1), (5, 1), (30, 1), (100, 1), (101, 1), (102, 1), (103, 1), (104, 1), (105, 1), (106, 1), (107, 1), (108, 1), (109, 1), (110, 1), (111, 1), (112, 1), (206, 1), (6, 1), (37, 0), (38, 0)] := Ab.call Aq1 Gc4 pc4 (by decide) (by decide) (by decide)
  have ec4 : Ec4 a0 = .inr (6, [.null, .null, .null, .null, .null, .int 0, .int 0, .int 0, .int 0, .int 0, .int 0]) := (Gc4.2.2.1 a0 hm3 (ne_ro tm3 Pq1.2.2.2.2.1 (by decide))).trans eq1
  have hm6 : a0 ∈ Lc4 := Gc4.1 _ hm3
  have tm6 : Tc4 a0 = (208, 0) := (Gc4.2.1 _ hm3 (ne_ro tm3 Pq1.2.2.2.2.1 (by decide))).trans tm3
  have hm7 : q1 ∈ Lc4 := Gc4.1 _ Pq1.2.2.2.1
  have tm7 : Tc4 q1 = (1, 2) := pc4
  refine tr_putR Z.1 Z.2.2.2.1 Sc4 hm6 tm6 rfl rfl rfl ec4 rfl (fun _ h => List.mem_cons_of_mem _ (List.mem_append_left _ (List.mem_append_left _ (List.mem_append_right _ h)))) tyX7_ok nmX7 0 (by decide) (Nat.le_of_ble_eq_true rfl) (Or.inr ⟨hnm, rfl, rfl⟩) (hts _ (List.mem_of_getElem? (i := 7) rfl)) dX7_init_12 rfl rfl (fun Eu8 Hu8 ku8 Su8 ou8 gu8 => ?_)
  have hu8 : Eu8 a0 = .inr (6, [.ref q1, .null, .null, .null, .null, .int 0, .int 0, .int 0, .int 0, .int 0, .int 0]) := gu8
  have Wu8 : Gr a0 [(1, 2), (27, 2), (26, 2), (25, 2), (24, 2), (23, 2), (22, 2), (21, 2), (20, 2)] L τ E Lc4 Tc4 Eu8 := Gr.wr Wc4 ou8 (Or.inl rfl)
  refine lv_aload_n hx hb dX7_init_15 rfl (lv_at hl 0 rfl) ?_
  refine tr_new Z.1 Z.2.2.2.1 Z.2.2.2.2.2 Su8 (fun _ h => List.mem_cons_of_mem _ (List.mem_append_left _ (List.mem_append_right _ h))) tyX6 tyX6_ok (hts _ (List.mem_of_getElem? (i := 8) rfl)) (hts _ (List.mem_of_getElem? (i := 9) rfl)) (hts _ (List.mem_of_getElem? (i := 10) rfl)) (ci := 5) rfl (fs := [.null, .int 0, .int 0, .int 0, .int 0]) (by decide +kernel) (205, 1) rfl rfl rfl (Ab.ne Ac4 (by decide)) (Nat.le_of_ble_eq_true rfl) (Nat.le_of_ble_eq_true rfl) dX7_init_16 (fun Lq9 Tq9 Eq9 q9 Hq9 Sq9 Pq9 gq9 => ?_)
  have Wq9 : Gr a0 [(205, 1), (1, 2), (27, 2), (26, 2), (25, 2), (24, 2), (23, 2), (22, 2), (21, 2), (20, 2)] L τ E Lq9 Tq9 Eq9 := Gr.push Wu8 Pq9
  have f10 : q9 ∉ L := Gr.fresh Wu8 Pq9
  have Aq9 : Ab Lq9 Tq9 [(8, 0), (5, 1), (30, 1), (100, 1), (101, 1), (102, 1), (103, 1), (104, 1), (105, 1), (106, 1), (107, 1), (108, 1), (109, 1), (110, 1), (111, 1), (112, 1), (206, 1), (6, 1), (37, 0), (38, 0)] := Ab.push Ac4 Pq9 (by decide) (by decide)
  have eq9 : Eq9 a0 = .inr (6, [.ref q1, .null, .null, .null, .null, .int 0, .int 0, .int 0, .int 0, .int 0, .int 0]) := (Pq9.2.2.1 a0 hm6).trans hu8
  have hm11 : a0 ∈ Lq9 := Pq9.1 _ hm6
  have tm11 : Tq9 a0 = (208, 0) := (Pq9.2.1 _ hm6).trans tm6
  have hm12 : q1 ∈ Lq9 := Pq9.1 _ hm7
  have tm12 : Tq9 q1 = (1, 2) := (Pq9.2.1 _ hm7).trans tm7
  refine lv_dup hx hb dX7_init_19 rfl ?_
  refine tc_I Z.1 Z.2.2.2.1 Z.2.2.2.2.1 Z.2.2.2.2.2 hO Sq9 (k_X6_init_1 l D cy Sq9.2 Pq9.2.2.2.1 Pq9.2.2.2.2.1 gq9 (Aq9.sub (by decide))) (cwI 0 hts gX7_init_X6_init rfl rfl rfl (hts _ (List.mem_of_getElem? (i := 10) rfl)) (hts _ (List.mem_of_getElem? (i := 46) rfl)) (hts _ (List.mem_of_getElem? (i := 47) rfl)) rfl (by decide +kernel) ⟨Nat.le_of_ble_eq_true rfl, Nat.le_of_ble_eq_true rfl⟩) rfl hl.1 rfl (Nat.le_of_ble_eq_true rfl) dX7_init_20 ⟨Nat.le_of_ble_eq_true rfl, Nat.le_of_ble_eq_true rfl⟩ (fun Lc13 Tc13 Ec13 Hc13 kc13 Sc13 Gc13 pc13 => ?_)
  have f14 : q9 ∉ L := Gr.fresh Wu8 Pq9
  have Wc13 : Gr a0 [(5, 1), (30, 1), (100, 1), (101, 1), (102, 1), (103, 1), (104, 1), (105, 1), (106, 1), (107, 1), (108, 1), (109, 1), (110, 1), (111, 1), (112, 1), (1, 2), (27, 2), (26, 2), (25, 2), (24, 2), (23, 2), (22, 2), (21, 2), (20, 2)] L τ E Lc13 Tc13 Ec13 := Gr.call Wq9 Gc13 f14 pc13 (Gr.one Wu8 Pq9)
  have Ac13 : Ab Lc13 Tc13 [(8, 0), (206, 1), (6, 1), (37, 0), (38, 0)] := Ab.call Aq9 Gc13 pc13 (by decide) (by decide) (by decide)
  have ec13 : Ec13 a0 = .inr (6, [.ref q1, .null, .null, .null, .null, .int 0, .int 0, .int 0, .int 0, .int 0, .int 0]) := (Gc13.2.2.1 a0 hm11 (ne_ro tm11 Pq9.2.2.2.2.1 (by decide))).trans eq9
  have hm15 : a0 ∈ Lc13 := Gc13.1 _ hm11
  have tm15 : Tc13 a0 = (208, 0) := (Gc13.2.1 _ hm11 (ne_ro tm11 Pq9.2.2.2.2.1 (by decide))).trans tm11
  have hm16 : q1 ∈ Lc13 := Gc13.1 _ hm12
  have tm16 : Tc13 q1 = (1, 2) := (Gc13.2.1 _ hm12 (ne_ro tm12 Pq9.2.2.2.2.1 (by decide))).trans tm12
  have hm17 : q9 ∈ Lc13 := Gc13.1 _ Pq9.2.2.2.1
  have tm17 : Tc13 q9 = (5, 1) := pc13
  refine tr_putR Z.1 Z.2.2.2.1 Sc13 hm15 tm15 rfl rfl rfl ec13 rfl (fun _ h => List.mem_cons_of_mem _ (List.mem_append_left _ (List.mem_append_left _ (List.mem_append_right _ h)))) tyX7_ok nmX7 1 (by decide) (Nat.le_of_ble_eq_true rfl) (Or.inr ⟨hnm, rfl, rfl⟩) (hts _ (List.mem_of_getElem? (i := 11) rfl)) dX7_init_23 rfl rfl (fun Eu18 Hu18 ku18 Su18 ou18 gu18 => ?_)
  have hu18 : Eu18 a0 = .inr (6, [.ref q1, .ref q9, .null, .null, .null, .int 0, .int 0, .int 0, .int 0, .int 0, .int 0]) := gu18
  have Wu18 : Gr a0 [(5, 1), (30, 1), (100, 1), (101, 1), (102, 1), (103, 1), (104, 1), (105, 1), (106, 1), (107, 1), (108, 1), (109, 1), (110, 1), (111, 1), (112, 1), (1, 2), (27, 2), (26, 2), (25, 2), (24, 2), (23, 2), (22, 2), (21, 2), (20, 2)] L τ E Lc13 Tc13 Eu18 := Gr.wr Wc13 ou18 (Or.inl rfl)
  refine lv_aload_n hx hb dX7_init_26 rfl (lv_at hl 0 rfl) ?_
  refine tr_new Z.1 Z.2.2.2.1 Z.2.2.2.2.2 Su18 (fun _ h => List.mem_cons_of_mem _ (List.mem_append_right _ h)) tyX8 tyX8_ok (hts _ (List.mem_of_getElem? (i := 12) rfl)) (hts _ (List.mem_of_getElem? (i := 13) rfl)) (hts _ (List.mem_of_getElem? (i := 14) rfl)) (ci := 7) rfl (fs := [.int 0, .int 0, .int 0, .int 0]) (by decide +kernel) (206, 1) rfl rfl rfl (Ab.ne Ac13 (by decide)) (Nat.le_of_ble_eq_true rfl) (Nat.le_of_ble_eq_true rfl) dX7_init_27 (fun Lq19 Tq19 Eq19 q19 Hq19 Sq19 Pq19 gq19 => ?_)
  have Wq19 : Gr a0 [(206, 1), (5, 1), (30, 1), (100, 1), (101, 1), (102, 1), (103, 1), (104, 1), (105, 1), (106, 1), (107, 1), (108, 1), (109, 1), (110, 1), (111, 1), (112, 1), (1, 2), (27, 2), (26, 2), (25, 2), (24, 2), (23, 2), (22, 2), (21, 2), (20, 2)] L τ E Lq19 Tq19 Eq19 := Gr.push Wu18 Pq19
  have f20 : q19 ∉ L := Gr.fresh Wu18 Pq19
  have Aq19 : Ab Lq19 Tq19 [(8, 0), (6, 1), (37, 0), (38, 0)] := Ab.push Ac13 Pq19 (by decide) (by decide)
  have eq19 : Eq19 a0 = .inr (6, [.ref q1, .ref q9, .null, .null, .null, .int 0, .int 0, .int 0, .int 0, .int 0, .int 0]) := (Pq19.2.2.1 a0 hm15).trans hu18
  have hm21 : a0 ∈ Lq19 := Pq19.1 _ hm15
  have tm21 : Tq19 a0 = (208, 0) := (Pq19.2.1 _ hm15).trans tm15
  have hm22 : q1 ∈ Lq19 := Pq19.1 _ hm16
  have tm22 : Tq19 q1 = (1, 2) := (Pq19.2.1 _ hm16).trans tm16
  have hm23 : q9 ∈ Lq19 := Pq19.1 _ hm17
  have tm23 : Tq19 q9 = (5, 1) := (Pq19.2.1 _ hm17).trans tm17
  refine lv_dup hx hb dX7_init_30 rfl ?_
  refine tc_IN Z.1 Z.2.2.2.1 Z.2.2.2.2.1 Z.2.2.2.2.2 hO Sq19 (k_X8_init_1 l D cy Sq19.2 Pq19.2.2.2.1 Pq19.2.2.2.2.1 gq19 (Aq19.sub (by decide))) ⟨va_cnB (host := RX9) 0 hts gX7_init_X8_init_n27 rfl rfl rfl (Z.2.2.2.2.1 _ (by decide +kernel)) (hts _ (List.mem_of_getElem? (i := 14) rfl)) (by decide +kernel) ⟨Nat.le_of_ble_eq_true rfl, Nat.le_of_ble_eq_true rfl⟩, rfl, (hts _ (List.mem_of_getElem? (i := 60) rfl))⟩ rfl hl.1 rfl (Nat.le_of_ble_eq_true rfl) dX7_init_31 ⟨Nat.le_of_ble_eq_true rfl, Nat.le_of_ble_eq_true rfl⟩ (fun Lc24 Tc24 Ec24 Hc24 kc24 Sc24 Gc24 pc24 => ?_)
  have f25 : q19 ∉ L := Gr.fresh Wu18 Pq19
  have Wc24 : Gr a0 [(6, 1), (5, 1), (30, 1), (100, 1), (101, 1), (102, 1), (103, 1), (104, 1), (105, 1), (106, 1), (107, 1), (108, 1), (109, 1), (110, 1), (111, 1), (112, 1), (1, 2), (27, 2), (26, 2), (25, 2), (24, 2), (23, 2), (22, 2), (21, 2), (20, 2)] L τ E Lc24 Tc24 Ec24 := Gr.call Wq19 Gc24 f25 pc24 (Gr.one Wu18 Pq19)
  have Ac24 : Ab Lc24 Tc24 [(8, 0), (37, 0), (38, 0)] := Ab.call Aq19 Gc24 pc24 (by decide) (by decide) (by decide)
  have ec24 : Ec24 a0 = .inr (6, [.ref q1, .ref q9, .null, .null, .null, .int 0, .int 0, .int 0, .int 0, .int 0, .int 0]) := (Gc24.2.2.1 a0 hm21 (ne_ro tm21 Pq19.2.2.2.2.1 (by decide))).trans eq19
  have hm26 : a0 ∈ Lc24 := Gc24.1 _ hm21
  have tm26 : Tc24 a0 = (208, 0) := (Gc24.2.1 _ hm21 (ne_ro tm21 Pq19.2.2.2.2.1 (by decide))).trans tm21
  have hm27 : q1 ∈ Lc24 := Gc24.1 _ hm22
  have tm27 : Tc24 q1 = (1, 2) := (Gc24.2.1 _ hm22 (ne_ro tm22 Pq19.2.2.2.2.1 (by decide))).trans tm22
  have hm28 : q9 ∈ Lc24 := Gc24.1 _ hm23
  have tm28 : Tc24 q9 = (5, 1) := (Gc24.2.1 _ hm23 (ne_ro tm23 Pq19.2.2.2.2.1 (by decide))).trans tm23
  have hm29 : q19 ∈ Lc24 := Gc24.1 _ Pq19.2.2.2.1
  have tm29 : Tc24 q19 = (6, 1) := pc24
  refine tr_putR Z.1 Z.2.2.2.1 Sc24 hm26 tm26 rfl rfl rfl ec24 rfl (fun _ h => List.mem_cons_of_mem _ (List.mem_append_left _ (List.mem_append_left _ (List.mem_append_right _ h)))) tyX7_ok nmX7 2 (by decide) (Nat.le_of_ble_eq_true rfl) (Or.inr ⟨hnm, rfl, rfl⟩) (hts _ (List.mem_of_getElem? (i := 15) rfl)) dX7_init_34 rfl rfl (fun Eu30 Hu30 ku30 Su30 ou30 gu30 => ?_)
  have hu30 : Eu30 a0 = .inr (6, [.ref q1, .ref q9, .ref q19, .null, .null, .int 0, .int 0, .int 0, .int 0, .int 0, .int 0]) := gu30
  have Wu30 : Gr a0 [(6, 1), (5, 1), (30, 1), (100, 1), (101, 1), (102, 1), (103, 1), (104, 1), (105, 1), (106, 1), (107, 1), (108, 1), (109, 1), (110, 1), (111, 1), (112, 1), (1, 2), (27, 2), (26, 2), (25, 2), (24, 2), (23, 2), (22, 2), (21, 2), (20, 2)] L τ E Lc24 Tc24 Eu30 := Gr.wr Wc24 ou30 (Or.inl rfl)
  refine lv_aload_n hx hb dX7_init_37 rfl (lv_at hl 0 rfl) ?_
  obtain ⟨v31, ev31, tv31⟩ : ∃ v : Int32, (Int16.ofInt (200)).toInt32 = v ∧ v.toInt = 200 := ⟨_, rfl, by decide +kernel⟩
  refine lv_sipush hx hb dX7_init_38 ev31 ?_
  refine tr_newi Z.1 Z.2.2.2.1 Z.2.2.2.2.2 Su30 (hts _ (List.mem_of_getElem? (i := 16) rfl)) rfl 0 rfl 200 (by omega) (vc_ty _ rfl _) (Nat.le_of_ble_eq_true rfl) (37, 0) rfl rfl rfl (fun i => ⟨(by decide : (-2147483648 : Int) ≤ 0), (by decide : (0 : Int) ≤ 2147483647)⟩) (fun _ => Ab.ne Ac24 (by decide)) (Nat.le_of_ble_eq_true rfl) (Nat.le_of_ble_eq_true rfl) dX7_init_41 (fun Lq32 Tq32 Eq32 q32 Hq32 Sq32 Pq32 => ?_)
  have Wq32 : Gr a0 [(37, 0), (6, 1), (5, 1), (30, 1), (100, 1), (101, 1), (102, 1), (103, 1), (104, 1), (105, 1), (106, 1), (107, 1), (108, 1), (109, 1), (110, 1), (111, 1), (112, 1), (1, 2), (27, 2), (26, 2), (25, 2), (24, 2), (23, 2), (22, 2), (21, 2), (20, 2)] L τ E Lq32 Tq32 Eq32 := Gr.push Wu30 Pq32
  have f33 : q32 ∉ L := Gr.fresh Wu30 Pq32
  have Aq32 : Ab Lq32 Tq32 [(8, 0), (38, 0)] := Ab.push Ac24 Pq32 (by decide) (by decide)
  have eq32 : Eq32 a0 = .inr (6, [.ref q1, .ref q9, .ref q19, .null, .null, .int 0, .int 0, .int 0, .int 0, .int 0, .int 0]) := (Pq32.2.2.1 a0 hm26).trans hu30
  have hm34 : a0 ∈ Lq32 := Pq32.1 _ hm26
  have tm34 : Tq32 a0 = (208, 0) := (Pq32.2.1 _ hm26).trans tm26
  have hm35 : q1 ∈ Lq32 := Pq32.1 _ hm27
  have tm35 : Tq32 q1 = (1, 2) := (Pq32.2.1 _ hm27).trans tm27
  have hm36 : q9 ∈ Lq32 := Pq32.1 _ hm28
  have tm36 : Tq32 q9 = (5, 1) := (Pq32.2.1 _ hm28).trans tm28
  have hm37 : q19 ∈ Lq32 := Pq32.1 _ hm29
  have tm37 : Tq32 q19 = (6, 1) := (Pq32.2.1 _ hm29).trans tm29
  refine tr_putR Z.1 Z.2.2.2.1 Sq32 hm34 tm34 rfl rfl rfl eq32 rfl (fun _ h => List.mem_cons_of_mem _ (List.mem_append_left _ (List.mem_append_left _ (List.mem_append_right _ h)))) tyX7_ok nmX7 3 (by decide) (Nat.le_of_ble_eq_true rfl) (Or.inr ⟨hnm, rfl, rfl⟩) (hts _ (List.mem_of_getElem? (i := 17) rfl)) dX7_init_43 rfl rfl (fun Eu38 Hu38 ku38 Su38 ou38 gu38 => ?_)
  have hu38 : Eu38 a0 = .inr (6, [.ref q1, .ref q9, .ref q19, .ref q32, .null, .int 0, .int 0, .int 0, .int 0, .int 0, .int 0]) := gu38
  have Wu38 : Gr a0 [(37, 0), (6, 1), (5, 1), (30, 1), (100, 1), (101, 1), (102, 1), (103, 1), (104, 1), (105, 1), (106, 1), (107, 1), (108, 1), (109, 1), (110, 1), (111, 1), (112, 1), (1, 2), (27, 2), (26, 2), (25, 2), (24, 2), (23, 2), (22, 2), (21, 2), (20, 2)] L τ E Lq32 Tq32 Eu38 := Gr.wr Wq32 ou38 (Or.inl rfl)
  refine lv_aload_n hx hb dX7_init_46 rfl (lv_at hl 0 rfl) ?_
  obtain ⟨v39, ev39, tv39⟩ : ∃ v : Int32, Int32.ofInt (3) = v ∧ v.toInt = 3 := ⟨_, rfl, by decide +kernel⟩
  refine lv_iconst hx hb dX7_init_47 ev39 ?_
  refine tr_newi Z.1 Z.2.2.2.1 Z.2.2.2.2.2 Su38 (hts _ (List.mem_of_getElem? (i := 16) rfl)) rfl 0 rfl 3 (by omega) (vc_ty _ rfl _) (Nat.le_of_ble_eq_true rfl) (38, 0) rfl rfl rfl (fun i => ⟨(by decide : (-2147483648 : Int) ≤ 0), (by decide : (0 : Int) ≤ 2147483647)⟩) (fun _ => Ab.ne Aq32 (by decide)) (Nat.le_of_ble_eq_true rfl) (Nat.le_of_ble_eq_true rfl) dX7_init_48 (fun Lq40 Tq40 Eq40 q40 Hq40 Sq40 Pq40 => ?_)
  have Wq40 : Gr a0 [(38, 0), (37, 0), (6, 1), (5, 1), (30, 1), (100, 1), (101, 1), (102, 1), (103, 1), (104, 1), (105, 1), (106, 1), (107, 1), (108, 1), (109, 1), (110, 1), (111, 1), (112, 1), (1, 2), (27, 2), (26, 2), (25, 2), (24, 2), (23, 2), (22, 2), (21, 2), (20, 2)] L τ E Lq40 Tq40 Eq40 := Gr.push Wu38 Pq40
  have f41 : q40 ∉ L := Gr.fresh Wu38 Pq40
  have Aq40 : Ab Lq40 Tq40 [(8, 0)] := Ab.push Aq32 Pq40 (by decide) (by decide)
  have eq40 : Eq40 a0 = .inr (6, [.ref q1, .ref q9, .ref q19, .ref q32, .null, .int 0, .int 0, .int 0, .int 0, .int 0, .int 0]) := (Pq40.2.2.1 a0 hm34).trans hu38
  have hm42 : a0 ∈ Lq40 := Pq40.1 _ hm34
  have tm42 : Tq40 a0 = (208, 0) := (Pq40.2.1 _ hm34).trans tm34
  have hm43 : q1 ∈ Lq40 := Pq40.1 _ hm35
  have tm43 : Tq40 q1 = (1, 2) := (Pq40.2.1 _ hm35).trans tm35
  have hm44 : q9 ∈ Lq40 := Pq40.1 _ hm36
  have tm44 : Tq40 q9 = (5, 1) := (Pq40.2.1 _ hm36).trans tm36
  have hm45 : q19 ∈ Lq40 := Pq40.1 _ hm37
  have tm45 : Tq40 q19 = (6, 1) := (Pq40.2.1 _ hm37).trans tm37
  have hm46 : q32 ∈ Lq40 := Pq40.1 _ Pq32.2.2.2.1
  have tm46 : Tq40 q32 = (37, 0) := (Pq40.2.1 _ Pq32.2.2.2.1).trans Pq32.2.2.2.2.1
  refine tr_putR Z.1 Z.2.2.2.1 Sq40 hm42 tm42 rfl rfl rfl eq40 rfl (fun _ h => List.mem_cons_of_mem _ (List.mem_append_left _ (List.mem_append_left _ (List.mem_append_right _ h)))) tyX7_ok nmX7 4 (by decide) (Nat.le_of_ble_eq_true rfl) (Or.inr ⟨hnm, rfl, rfl⟩) (hts _ (List.mem_of_getElem? (i := 18) rfl)) dX7_init_50 rfl rfl (fun Eu47 Hu47 ku47 Su47 ou47 gu47 => ?_)
  have hu47 : Eu47 a0 = .inr (6, [.ref q1, .ref q9, .ref q19, .ref q32, .ref q40, .int 0, .int 0, .int 0, .int 0, .int 0, .int 0]) := gu47
  have Wu47 : Gr a0 [(38, 0), (37, 0), (6, 1), (5, 1), (30, 1), (100, 1), (101, 1), (102, 1), (103, 1), (104, 1), (105, 1), (106, 1), (107, 1), (108, 1), (109, 1), (110, 1), (111, 1), (112, 1), (1, 2), (27, 2), (26, 2), (25, 2), (24, 2), (23, 2), (22, 2), (21, 2), (20, 2)] L τ E Lq40 Tq40 Eu47 := Gr.wr Wq40 ou47 (Or.inl rfl)
  refine lv_aload_n hx hb dX7_init_53 rfl (lv_at hl 0 rfl) ?_
  obtain ⟨v48, ev48, tv48⟩ : ∃ v : Int32, Int32.ofInt (0) = v ∧ v.toInt = 0 := ⟨_, rfl, by decide +kernel⟩
  refine lv_iconst hx hb dX7_init_54 ev48 ?_
  refine tr_putR Z.1 Z.2.2.2.1 Su47 hm42 tm42 rfl rfl rfl hu47 rfl (fun _ h => List.mem_cons_of_mem _ (List.mem_append_left _ (List.mem_append_left _ (List.mem_append_right _ h)))) tyX7_ok nmX7 5 (by decide) (Nat.le_of_ble_eq_true rfl) (Or.inl rfl) (hts _ (List.mem_of_getElem? (i := 19) rfl)) dX7_init_55 (by rw [fa_k 0 (show v48.toInt = (0 : Int32).toInt from tv48)]; decide +kernel) (by rw [fa_k 0 (show v48.toInt = (0 : Int32).toInt from tv48)]; decide +kernel) (fun Eu49 Hu49 ku49 Su49 ou49 gu49 => ?_)
  have hu49 : Eu49 a0 = .inr (6, [.ref q1, .ref q9, .ref q19, .ref q32, .ref q40, .int v48, .int 0, .int 0, .int 0, .int 0, .int 0]) := gu49
  have Wu49 : Gr a0 [(38, 0), (37, 0), (6, 1), (5, 1), (30, 1), (100, 1), (101, 1), (102, 1), (103, 1), (104, 1), (105, 1), (106, 1), (107, 1), (108, 1), (109, 1), (110, 1), (111, 1), (112, 1), (1, 2), (27, 2), (26, 2), (25, 2), (24, 2), (23, 2), (22, 2), (21, 2), (20, 2)] L τ E Lq40 Tq40 Eu49 := Gr.wr Wu47 ou49 (Or.inl rfl)
  refine lv_aload_n hx hb dX7_init_58 rfl (lv_at hl 0 rfl) ?_
  obtain ⟨v50, ev50, tv50⟩ : ∃ v : Int32, Int32.ofInt (0) = v ∧ v.toInt = 0 := ⟨_, rfl, by decide +kernel⟩
  refine lv_iconst hx hb dX7_init_59 ev50 ?_
  refine tr_putR Z.1 Z.2.2.2.1 Su49 hm42 tm42 rfl rfl rfl hu49 rfl (fun _ h => List.mem_cons_of_mem _ (List.mem_append_left _ (List.mem_append_left _ (List.mem_append_right _ h)))) tyX7_ok nmX7 6 (by decide) (Nat.le_of_ble_eq_true rfl) (Or.inl rfl) (hts _ (List.mem_of_getElem? (i := 20) rfl)) dX7_init_60 rfl rfl (fun Eu51 Hu51 ku51 Su51 ou51 gu51 => ?_)
  have hu51 : Eu51 a0 = .inr (6, [.ref q1, .ref q9, .ref q19, .ref q32, .ref q40, .int v48, .int v50, .int 0, .int 0, .int 0, .int 0]) := gu51
  have Wu51 : Gr a0 [(38, 0), (37, 0), (6, 1), (5, 1), (30, 1), (100, 1), (101, 1), (102, 1), (103, 1), (104, 1), (105, 1), (106, 1), (107, 1), (108, 1), (109, 1), (110, 1), (111, 1), (112, 1), (1, 2), (27, 2), (26, 2), (25, 2), (24, 2), (23, 2), (22, 2), (21, 2), (20, 2)] L τ E Lq40 Tq40 Eu51 := Gr.wr Wu49 ou51 (Or.inl rfl)
  refine lv_aload_n hx hb dX7_init_63 rfl (lv_at hl 0 rfl) ?_
  obtain ⟨v52, ev52, tv52⟩ : ∃ v : Int32, Int32.ofInt (0) = v ∧ v.toInt = 0 := ⟨_, rfl, by decide +kernel⟩
  refine lv_iconst hx hb dX7_init_64 ev52 ?_
  refine tr_putR Z.1 Z.2.2.2.1 Su51 hm42 tm42 rfl rfl rfl hu51 rfl (fun _ h => List.mem_cons_of_mem _ (List.mem_append_left _ (List.mem_append_left _ (List.mem_append_right _ h)))) tyX7_ok nmX7 7 (by decide) (Nat.le_of_ble_eq_true rfl) (Or.inl rfl) (hts _ (List.mem_of_getElem? (i := 21) rfl)) dX7_init_65 rfl rfl (fun Eu53 Hu53 ku53 Su53 ou53 gu53 => ?_)
  have hu53 : Eu53 a0 = .inr (6, [.ref q1, .ref q9, .ref q19, .ref q32, .ref q40, .int v48, .int v50, .int v52, .int 0, .int 0, .int 0]) := gu53
  have Wu53 : Gr a0 [(38, 0), (37, 0), (6, 1), (5, 1), (30, 1), (100, 1), (101, 1), (102, 1), (103, 1), (104, 1), (105, 1), (106, 1), (107, 1), (108, 1), (109, 1), (110, 1), (111, 1), (112, 1), (1, 2), (27, 2), (26, 2), (25, 2), (24, 2), (23, 2), (22, 2), (21, 2), (20, 2)] L τ E Lq40 Tq40 Eu53 := Gr.wr Wu51 ou53 (Or.inl rfl)
  refine lv_aload_n hx hb dX7_init_68 rfl (lv_at hl 0 rfl) ?_
  obtain ⟨v54, ev54, tv54⟩ : ∃ v : Int32, Int32.ofInt (0) = v ∧ v.toInt = 0 := ⟨_, rfl, by decide +kernel⟩
  refine lv_iconst hx hb dX7_init_69 ev54 ?_
  refine tr_putR Z.1 Z.2.2.2.1 Su53 hm42 tm42 rfl rfl rfl hu53 rfl (fun _ h => List.mem_cons_of_mem _ (List.mem_append_left _ (List.mem_append_left _ (List.mem_append_right _ h)))) tyX7_ok nmX7 8 (by decide) (Nat.le_of_ble_eq_true rfl) (Or.inl rfl) (hts _ (List.mem_of_getElem? (i := 22) rfl)) dX7_init_70 rfl rfl (fun Eu55 Hu55 ku55 Su55 ou55 gu55 => ?_)
  have hu55 : Eu55 a0 = .inr (6, [.ref q1, .ref q9, .ref q19, .ref q32, .ref q40, .int v48, .int v50, .int v52, .int v54, .int 0, .int 0]) := gu55
  have Wu55 : Gr a0 [(38, 0), (37, 0), (6, 1), (5, 1), (30, 1), (100, 1), (101, 1), (102, 1), (103, 1), (104, 1), (105, 1), (106, 1), (107, 1), (108, 1), (109, 1), (110, 1), (111, 1), (112, 1), (1, 2), (27, 2), (26, 2), (25, 2), (24, 2), (23, 2), (22, 2), (21, 2), (20, 2)] L τ E Lq40 Tq40 Eu55 := Gr.wr Wu53 ou55 (Or.inl rfl)
  refine lv_aload_n hx hb dX7_init_73 rfl (lv_at hl 0 rfl) ?_
  obtain ⟨v56, ev56, tv56⟩ : ∃ v : Int32, Int32.ofInt (0) = v ∧ v.toInt = 0 := ⟨_, rfl, by decide +kernel⟩
  refine lv_iconst hx hb dX7_init_74 ev56 ?_
  refine tr_putR Z.1 Z.2.2.2.1 Su55 hm42 tm42 rfl rfl rfl hu55 rfl (fun _ h => List.mem_cons_of_mem _ (List.mem_append_left _ (List.mem_append_left _ (List.mem_append_right _ h)))) tyX7_ok nmX7 9 (by decide) (Nat.le_of_ble_eq_true rfl) (Or.inl rfl) (hts _ (List.mem_of_getElem? (i := 23) rfl)) dX7_init_75 rfl rfl (fun Eu57 Hu57 ku57 Su57 ou57 gu57 => ?_)
  have hu57 : Eu57 a0 = .inr (6, [.ref q1, .ref q9, .ref q19, .ref q32, .ref q40, .int v48, .int v50, .int v52, .int v54, .int v56, .int 0]) := gu57
  have Wu57 : Gr a0 [(38, 0), (37, 0), (6, 1), (5, 1), (30, 1), (100, 1), (101, 1), (102, 1), (103, 1), (104, 1), (105, 1), (106, 1), (107, 1), (108, 1), (109, 1), (110, 1), (111, 1), (112, 1), (1, 2), (27, 2), (26, 2), (25, 2), (24, 2), (23, 2), (22, 2), (21, 2), (20, 2)] L τ E Lq40 Tq40 Eu57 := Gr.wr Wu55 ou57 (Or.inl rfl)
  refine lv_aload_n hx hb dX7_init_78 rfl (lv_at hl 0 rfl) ?_
  obtain ⟨v58, ev58, tv58⟩ : ∃ v : Int32, Int32.ofInt (0) = v ∧ v.toInt = 0 := ⟨_, rfl, by decide +kernel⟩
  refine lv_iconst hx hb dX7_init_79 ev58 ?_
  refine tr_putR Z.1 Z.2.2.2.1 Su57 hm42 tm42 rfl rfl rfl hu57 rfl (fun _ h => List.mem_cons_of_mem _ (List.mem_append_left _ (List.mem_append_left _ (List.mem_append_right _ h)))) tyX7_ok nmX7 10 (by decide) (Nat.le_of_ble_eq_true rfl) (Or.inl rfl) (hts _ (List.mem_of_getElem? (i := 24) rfl)) dX7_init_80 rfl rfl (fun Eu59 Hu59 ku59 Su59 ou59 gu59 => ?_)
  have hu59 : Eu59 a0 = .inr (6, [.ref q1, .ref q9, .ref q19, .ref q32, .ref q40, .int v48, .int v50, .int v52, .int v54, .int v56, .int v58]) := gu59
  have Wu59 : Gr a0 [(38, 0), (37, 0), (6, 1), (5, 1), (30, 1), (100, 1), (101, 1), (102, 1), (103, 1), (104, 1), (105, 1), (106, 1), (107, 1), (108, 1), (109, 1), (110, 1), (111, 1), (112, 1), (1, 2), (27, 2), (26, 2), (25, 2), (24, 2), (23, 2), (22, 2), (21, 2), (20, 2)] L τ E Lq40 Tq40 Eu59 := Gr.wr Wu57 ou59 (Or.inl rfl)
  have IR : Inv TB cy Lq40 (upT Tq40 a0 (8, 0)) Eu59 := inv_role Su59.2 tm42 (by decide) (fun _ => Ab.ne Aq40 (by decide)) (fun ci ts h => by
      have h : some ((6 : Nat), ([(1, 1, 2), (1, 5, 1), (1, 6, 1), (1, 37, 0), (1, 38, 0), (0, 0, 1), (0, -2147483648, 2147483647), (0, 0, 2000), (0, -2147483648, 2147483647), (0, -2147483648, 2147483647), (0, -2147483648, 2147483647)] : List Ft)) = some (ci, ts) := h
      cases h
      exact okO_of hu59 ⟨⟨q1, rfl, hm43, (upT_ne (ne_ro tm43 tm42 (by decide))).trans tm43⟩, ⟨q9, rfl, hm44, (upT_ne (ne_ro tm44 tm42 (by decide))).trans tm44⟩, ⟨q19, rfl, hm45, (upT_ne (ne_ro tm45 tm42 (by decide))).trans tm45⟩, ⟨q32, rfl, hm46, (upT_ne (ne_ro tm46 tm42 (by decide))).trans tm46⟩, ⟨q40, rfl, Pq40.2.2.2.1, (upT_ne (ne_ro Pq40.2.2.2.2.1 tm42 (by decide))).trans Pq40.2.2.2.2.1⟩, ⟨v48, rfl, by dsimp only; omega, by dsimp only; omega⟩, ⟨v50, rfl, by dsimp only; omega, by dsimp only; omega⟩, ⟨v52, rfl, by dsimp only; omega, by dsimp only; omega⟩, ⟨v54, rfl, by dsimp only; omega, by dsimp only; omega⟩, ⟨v56, rfl, by dsimp only; omega, by dsimp only; omega⟩, ⟨v58, rfl, by dsimp only; omega, by dsimp only; omega⟩, trivial⟩) (fun _ _ _ h => nomatch h) (fun _ _ _ h => nomatch h)
  exact en_vG Z ⟨Su59.1, IR⟩ (post := fun _ T9 _ => T9 a0 = (8, 0)) (Gr.role Wu59 ha0) (upT_self _ _ _) dX7_init_83

