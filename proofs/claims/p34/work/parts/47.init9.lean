set_option maxRecDepth 20000 in
theorem ggX9_init_X4_init : GoodIn wsX9_init wsX4_init := goodIn_r _ [39, 40, 2, 3, 41, 42, 43, 44, 45, 46, 47, 48, 32, 49, 50, 51, 52, 53, 54, 55, 56, 57, 131, 132, 133, 134, 135, 136, 137, 138, 139, 140, 141, 142, 143, 144, 145, 146] (by decide +kernel) (by decide +kernel)
set_option maxRecDepth 20000 in
theorem gX9_init_X4_init : GoodIn wsX9_init (wsX4_init) := ggX9_init_X4_init
set_option maxRecDepth 20000 in
theorem ggX9_init_X3_init : GoodIn wsX9_init wsX3_init := goodIn_r _ [60, 61, 2, 3, 62, 63, 64, 65, 5, 6, 66, 38, 39, 40, 41, 42, 43, 44, 45, 46, 47, 48, 32, 49, 50, 51, 52, 53, 54, 55, 56, 57, 158, 159, 160, 131, 132, 133, 134, 135, 136, 137, 138, 139, 140, 141, 142, 143, 144, 145, 146] (by decide +kernel) (by decide +kernel)
set_option maxRecDepth 20000 in
theorem gX9_init_X3_init : GoodIn wsX9_init (wsX3_init) := ggX9_init_X3_init
set_option maxRecDepth 20000 in
theorem ggX9_init_X6_init : GoodIn wsX9_init wsX6_init := goodIn_r _ [69, 70, 2, 3, 71, 32, 72, 73, 74, 75, 76, 77, 78, 79, 80, 161, 162, 163, 164, 165] (by decide +kernel) (by decide +kernel)
set_option maxRecDepth 20000 in
theorem gX9_init_X6_init : GoodIn wsX9_init (wsX6_init) := ggX9_init_X6_init
set_option maxRecDepth 20000 in
theorem ggX9_init_X8_init : GoodIn wsX9_init wsX8_init := goodIn_r _ [82, 83, 2, 3, 84, 85, 86, 87, 166, 167, 168, 169] (by decide +kernel) (by decide +kernel)
set_option maxRecDepth 20000 in
theorem gX9_init_X8_init_n32 : GoodIn wsX9_init (wsX8_init) := ggX9_init_X8_init
set_option maxRecDepth 20000 in
theorem ggX9_init_X5_init : GoodIn wsX9_init wsX5_init := goodIn_r _ [89, 90, 2, 3, 91, 92, 93, 94, 95, 96, 97, 98, 99, 100, 101, 32, 102, 103, 104, 105, 170, 171, 172, 173, 174, 175, 176, 177, 178, 179, 180, 181, 182, 183] (by decide +kernel) (by decide +kernel)
set_option maxRecDepth 20000 in
theorem gX9_init_X5_init_n39 : GoodIn wsX9_init (wsX5_init) := ggX9_init_X5_init
set_option maxRecDepth 20000 in
theorem ggX9_init_X7_init : GoodIn wsX9_init wsX7_init := goodIn_r _ [107, 108, 2, 3, 109, 5, 6, 110, 111, 13, 14, 112, 113, 17, 18, 114, 32, 115, 116, 117, 118, 119, 120, 121, 122, 123, 38, 39, 40, 41, 42, 43, 44, 45, 46, 47, 48, 49, 50, 51, 52, 53, 54, 55, 56, 57, 124, 68, 69, 70, 71, 72, 73, 74, 75, 76, 77, 78, 79, 80, 81, 82, 83, 84, 85, 86, 87, 131, 132, 133, 134, 135, 136, 137, 138, 139, 140, 141, 142, 143, 144, 145, 146, 184, 185, 186, 187, 188, 189, 190, 191, 192, 193, 194, 161, 162, 163, 164, 165, 166, 167, 168, 169] (by decide +kernel) (by decide +kernel)
set_option maxRecDepth 20000 in
theorem gX9_init_X7_init_n46 : GoodIn wsX9_init (wsX7_init) := ggX9_init_X7_init
set_option maxRecDepth 20000 in
theorem ggX9_init_X0_init : GoodIn wsX9_init wsX0_init := goodIn_r _ [126, 127, 2, 3, 32, 128, 129, 130, 195, 196, 197] (by decide +kernel) (by decide +kernel)
set_option maxRecDepth 20000 in
theorem gX9_init_X0_init_n53 : GoodIn wsX9_init (wsX0_init) := ggX9_init_X0_init
theorem dX9_init_0 : decode cX9_init 0 = .ok (.aload_n 0, 1) := by decide +kernel
theorem dX9_init_1 : decode cX9_init 1 = .ok (.invokespecial 1, 3) := by decide +kernel
theorem dX9_init_4 : decode cX9_init 4 = .ok (.aload_n 0, 1) := by decide +kernel
theorem dX9_init_5 : decode cX9_init 5 = .ok (.new 7, 3) := by decide +kernel
theorem dX9_init_8 : decode cX9_init 8 = .ok (.dup, 1) := by decide +kernel
theorem dX9_init_9 : decode cX9_init 9 = .ok (.invokespecial 9, 3) := by decide +kernel
theorem dX9_init_12 : decode cX9_init 12 = .ok (.putfield 10, 3) := by decide +kernel
theorem dX9_init_15 : decode cX9_init 15 = .ok (.aload_n 0, 1) := by decide +kernel
theorem dX9_init_16 : decode cX9_init 16 = .ok (.new 16, 3) := by decide +kernel
theorem dX9_init_19 : decode cX9_init 19 = .ok (.dup, 1) := by decide +kernel
theorem dX9_init_20 : decode cX9_init 20 = .ok (.invokespecial 18, 3) := by decide +kernel
theorem dX9_init_23 : decode cX9_init 23 = .ok (.putfield 19, 3) := by decide +kernel
theorem dX9_init_26 : decode cX9_init 26 = .ok (.aload_n 0, 1) := by decide +kernel
theorem dX9_init_27 : decode cX9_init 27 = .ok (.new 23, 3) := by decide +kernel
theorem dX9_init_30 : decode cX9_init 30 = .ok (.dup, 1) := by decide +kernel
theorem dX9_init_31 : decode cX9_init 31 = .ok (.invokespecial 25, 3) := by decide +kernel
theorem dX9_init_34 : decode cX9_init 34 = .ok (.putfield 26, 3) := by decide +kernel
theorem dX9_init_37 : decode cX9_init 37 = .ok (.aload_n 0, 1) := by decide +kernel
theorem dX9_init_38 : decode cX9_init 38 = .ok (.new 30, 3) := by decide +kernel
theorem dX9_init_41 : decode cX9_init 41 = .ok (.dup, 1) := by decide +kernel
theorem dX9_init_42 : decode cX9_init 42 = .ok (.invokespecial 32, 3) := by decide +kernel
theorem dX9_init_45 : decode cX9_init 45 = .ok (.putfield 33, 3) := by decide +kernel
theorem dX9_init_48 : decode cX9_init 48 = .ok (.aload_n 0, 1) := by decide +kernel
theorem dX9_init_49 : decode cX9_init 49 = .ok (.new 37, 3) := by decide +kernel
theorem dX9_init_52 : decode cX9_init 52 = .ok (.dup, 1) := by decide +kernel
theorem dX9_init_53 : decode cX9_init 53 = .ok (.invokespecial 39, 3) := by decide +kernel
theorem dX9_init_56 : decode cX9_init 56 = .ok (.putfield 40, 3) := by decide +kernel
theorem dX9_init_59 : decode cX9_init 59 = .ok (.aload_n 0, 1) := by decide +kernel
theorem dX9_init_60 : decode cX9_init 60 = .ok (.new 44, 3) := by decide +kernel
theorem dX9_init_63 : decode cX9_init 63 = .ok (.dup, 1) := by decide +kernel
theorem dX9_init_64 : decode cX9_init 64 = .ok (.invokespecial 46, 3) := by decide +kernel
theorem dX9_init_67 : decode cX9_init 67 = .ok (.putfield 47, 3) := by decide +kernel
theorem dX9_init_70 : decode cX9_init 70 = .ok (.aload_n 0, 1) := by decide +kernel
theorem dX9_init_71 : decode cX9_init 71 = .ok (.new 51, 3) := by decide +kernel
theorem dX9_init_74 : decode cX9_init 74 = .ok (.dup, 1) := by decide +kernel
theorem dX9_init_75 : decode cX9_init 75 = .ok (.invokespecial 53, 3) := by decide +kernel
theorem dX9_init_78 : decode cX9_init 78 = .ok (.putfield 54, 3) := by decide +kernel
theorem dX9_init_81 : decode cX9_init 81 = .ok (.aload_n 0, 1) := by decide +kernel
theorem dX9_init_82 : decode cX9_init 82 = .ok (.sipush 264, 3) := by decide +kernel
theorem dX9_init_85 : decode cX9_init 85 = .ok (.newarray .int, 2) := by decide +kernel
theorem dX9_init_87 : decode cX9_init 87 = .ok (.putfield 58, 3) := by decide +kernel
theorem dX9_init_90 : decode cX9_init 90 = .ok (.aload_n 0, 1) := by decide +kernel
theorem dX9_init_91 : decode cX9_init 91 = .ok (.iconst 0, 1) := by decide +kernel
theorem dX9_init_92 : decode cX9_init 92 = .ok (.putfield 62, 3) := by decide +kernel
theorem dX9_init_95 : decode cX9_init 95 = .ok (.aload_n 0, 1) := by decide +kernel
theorem dX9_init_96 : decode cX9_init 96 = .ok (.iconst 0, 1) := by decide +kernel
theorem dX9_init_97 : decode cX9_init 97 = .ok (.putfield 66, 3) := by decide +kernel
theorem dX9_init_100 : decode cX9_init 100 = .ok (.aload_n 0, 1) := by decide +kernel
theorem dX9_init_101 : decode cX9_init 101 = .ok (.iconst 1, 1) := by decide +kernel
theorem dX9_init_102 : decode cX9_init 102 = .ok (.putfield 69, 3) := by decide +kernel
theorem dX9_init_105 : decode cX9_init 105 = .ok (.return_, 1) := by decide +kernel
set_option maxHeartbeats 4000000 in
set_option maxRecDepth 100000 in
theorem k_X9_init_0 (l : Launch) (D : va_G) (cy : Nat → ClassId) {L : List Nat} {τ : Nat → Ro} {E : Ec} (hI : Inv TB cy L τ E) {a0 : Nat} (ha0 : a0 ∈ L) (ta0 : τ a0 = (200, 0)) (he0 : E a0 = .inr (8, [.null, .null, .null, .null, .null, .null, .null, .null, .int 0, .int 0, .int 0])) (hab0 : Ab L τ [(0, 0), (201, 0), (1, 0), (20, 0), (21, 0), (22, 0), (23, 0), (24, 0), (25, 0), (26, 0), (27, 0), (204, 0), (4, 0), (29, 0), (229, 0), (201, 1), (205, 0), (5, 0), (30, 0), (100, 0), (101, 0), (102, 0), (103, 0), (104, 0), (105, 0), (106, 0), (107, 0), (108, 0), (109, 0), (110, 0), (111, 0), (112, 0), (206, 0), (6, 0), (207, 0), (7, 0), (32, 0), (33, 0), (34, 0), (35, 0), (36, 0), (208, 0), (8, 0), (201, 2), (1, 2), (20, 2), (21, 2), (22, 2), (23, 2), (24, 2), (25, 2), (26, 2), (27, 2), (205, 1), (5, 1), (30, 1), (100, 1), (101, 1), (102, 1), (103, 1), (104, 1), (105, 1), (106, 1), (107, 1), (108, 1), (109, 1), (110, 1), (111, 1), (112, 1), (206, 1), (6, 1), (37, 0), (38, 0), (209, 0), (9, 0), (39, 0), (31, 0), (28, 0)]) : CtG l yX9_init wsX9_init { frames := 3, cells := 425, slots := 9284, locals := 64 } D cy L τ E [.ref a0] a0 [(28, 0), (9, 0), (31, 0), (39, 0), (8, 0), (38, 0), (37, 0), (6, 1), (5, 1), (30, 1), (100, 1), (101, 1), (102, 1), (103, 1), (104, 1), (105, 1), (106, 1), (107, 1), (108, 1), (109, 1), (110, 1), (111, 1), (112, 1), (1, 2), (27, 2), (26, 2), (25, 2), (24, 2), (23, 2), (22, 2), (21, 2), (20, 2), (7, 0), (36, 0), (35, 0), (34, 0), (33, 0), (32, 0), (6, 0), (5, 0), (30, 0), (100, 0), (101, 0), (102, 0), (103, 0), (104, 0), (105, 0), (106, 0), (107, 0), (108, 0), (109, 0), (110, 0), (111, 0), (112, 0), (4, 0), (1, 1), (27, 1), (26, 1), (25, 1), (24, 1), (23, 1), (22, 1), (21, 1), (20, 1), (29, 0), (1, 0), (27, 0), (26, 0), (25, 0), (24, 0), (23, 0), (22, 0), (21, 0), (20, 0)] 425 9284 (fun L' τ' E' => τ' a0 = (0, 0) ∧ (fi E' a0 9).toInt = 0 ∧ (∃ q : Nat, q ∈ L' ∧ τ' q = (9, 0) ∧ (fi E' q 2).toInt = 0) ∧ ∃ q : Nat, q ∈ L' ∧ τ' q = (7, 0) ∧ (fi E' q 1).toInt = 0 ∧ (fi E' q 4).toInt = 0) := by
  intro sz
  refine staG (cc := cX9_init) (maxL := 1) hI (by decide) rfl (Nat.le_of_ble_eq_true rfl) (fun p e s m args below meth c ls hsz hnm Z hO S0 hl => ?_)
  have hx := Z.1.1
  have hb := Z.1.2.1
  have hts := Z.1.2.2.2.2
  have hnm : meth.name = "<init>" := hnm
  have G0 : Gr a0 [] L τ E L τ E := Gr.refl
  have hl : lv_has ls 1 [(0, .ref a0)] := hl
  refine lv_aload_n hx hb dX9_init_0 rfl (lv_at hl 0 rfl) ?_
  refine tr_obj Z.1 hl.1 (hts _ (List.mem_of_getElem? (i := 1) rfl)) (hts _ (List.mem_of_getElem? (i := 2) rfl)) (hts _ (List.mem_of_getElem? (i := 3) rfl)) dX9_init_1 (Nat.le_of_ble_eq_true rfl) (Nat.le_of_ble_eq_true rfl) ?_
  refine lv_aload_n hx hb dX9_init_4 rfl (lv_at hl 0 rfl) ?_
  refine tr_new Z.1 Z.2.2.2.1 Z.2.2.2.2.2 S0 (fun _ h => List.mem_cons_of_mem _ (List.mem_append_left _ (List.mem_append_left _ (List.mem_append_left _ (List.mem_append_left _ (List.mem_append_left _ (List.mem_append_left _ (List.mem_append_left _ (List.mem_append_right _ h))))))))) tyX4 tyX4_ok (hts _ (List.mem_of_getElem? (i := 4) rfl)) (hts _ (List.mem_of_getElem? (i := 5) rfl)) (hts _ (List.mem_of_getElem? (i := 6) rfl)) (ci := 3) rfl (fs := [.int 0, .int 0, .int 0, .int 0, .int 0, .int 0, .int 0, .int 0, .null, .null, .null, .null, .null, .null, .null, .null]) (by decide +kernel) (201, 0) rfl rfl rfl (Ab.ne hab0 (by decide)) (Nat.le_of_ble_eq_true rfl) (Nat.le_of_ble_eq_true rfl) dX9_init_5 (fun Lq1 Tq1 Eq1 q1 Hq1 Sq1 Pq1 gq1 => ?_)
  have Wq1 : Gr a0 [(201, 0)] L τ E Lq1 Tq1 Eq1 := Gr.push G0 Pq1
  have f2 : q1 ∉ L := Gr.fresh G0 Pq1
  have Aq1 : Ab Lq1 Tq1 [(0, 0), (1, 0), (20, 0), (21, 0), (22, 0), (23, 0), (24, 0), (25, 0), (26, 0), (27, 0), (204, 0), (4, 0), (29, 0), (229, 0), (201, 1), (205, 0), (5, 0), (30, 0), (100, 0), (101, 0), (102, 0), (103, 0), (104, 0), (105, 0), (106, 0), (107, 0), (108, 0), (109, 0), (110, 0), (111, 0), (112, 0), (206, 0), (6, 0), (207, 0), (7, 0), (32, 0), (33, 0), (34, 0), (35, 0), (36, 0), (208, 0), (8, 0), (201, 2), (1, 2), (20, 2), (21, 2), (22, 2), (23, 2), (24, 2), (25, 2), (26, 2), (27, 2), (205, 1), (5, 1), (30, 1), (100, 1), (101, 1), (102, 1), (103, 1), (104, 1), (105, 1), (106, 1), (107, 1), (108, 1), (109, 1), (110, 1), (111, 1), (112, 1), (206, 1), (6, 1), (37, 0), (38, 0), (209, 0), (9, 0), (39, 0), (31, 0), (28, 0)] := Ab.push hab0 Pq1 (by decide) (by decide)
  have eq1 : Eq1 a0 = .inr (8, [.null, .null, .null, .null, .null, .null, .null, .null, .int 0, .int 0, .int 0]) := (Pq1.2.2.1 a0 ha0).trans he0
  have hm3 : a0 ∈ Lq1 := Pq1.1 _ ha0
  have tm3 : Tq1 a0 = (200, 0) := (Pq1.2.1 _ ha0).trans ta0
  refine lv_dup hx hb dX9_init_8 rfl ?_
  refine tc_I Z.1 Z.2.2.2.1 Z.2.2.2.2.1 Z.2.2.2.2.2 hO Sq1 (k_X4_init_0 l D cy Sq1.2 Pq1.2.2.2.1 Pq1.2.2.2.2.1 gq1 (Aq1.sub (by decide))) (cwI 0 hts gX9_init_X4_init rfl rfl rfl (hts _ (List.mem_of_getElem? (i := 6) rfl)) (hts _ (List.mem_of_getElem? (i := 37) rfl)) (hts _ (List.mem_of_getElem? (i := 38) rfl)) rfl (by decide +kernel) ⟨Nat.le_of_ble_eq_true rfl, Nat.le_of_ble_eq_true rfl⟩) rfl hl.1 rfl (Nat.le_of_ble_eq_true rfl) dX9_init_9 ⟨Nat.le_of_ble_eq_true rfl, Nat.le_of_ble_eq_true rfl⟩ (fun Lc4 Tc4 Ec4 Hc4 kc4 Sc4 Gc4 pc4 => ?_)
  have f5 : q1 ∉ L := Gr.fresh G0 Pq1
  have Wc4 : Gr a0 [(1, 0), (27, 0), (26, 0), (25, 0), (24, 0), (23, 0), (22, 0), (21, 0), (20, 0)] L τ E Lc4 Tc4 Ec4 := Gr.call Wq1 Gc4 f5 pc4 (Gr.one G0 Pq1)
  have Ac4 : Ab Lc4 Tc4 [(0, 0), (204, 0), (4, 0), (29, 0), (229, 0), (201, 1), (205, 0), (5, 0), (30, 0), (100, 0), (101, 0), (102, 0), (103, 0), (104, 0), (105, 0), (106, 0), (107, 0), (108, 0), (109, 0), (110, 0), (111, 0), (112, 0), (206, 0), (6, 0), (207, 0), (7, 0), (32, 0), (33, 0), (34, 0), (35, 0), (36, 0), (208, 0), (8, 0), (201, 2), (1, 2), (20, 2), (21, 2), (22, 2), (23, 2), (24, 2), (25, 2), (26, 2), (27, 2), (205, 1), (5, 1), (30, 1), (100, 1), (101, 1), (102, 1), (103, 1), (104, 1), (105, 1), (106, 1), (107, 1), (108, 1), (109, 1), (110, 1), (111, 1), (112, 1), (206, 1), (6, 1), (37, 0), (38, 0), (209, 0), (9, 0), (39, 0), (31, 0), (28, 0)] := Ab.call Aq1 Gc4 pc4 (by decide) (by decide) (by decide)
  have ec4 : Ec4 a0 = .inr (8, [.null, .null, .null, .null, .null, .null, .null, .null, .int 0, .int 0, .int 0]) := (Gc4.2.2.1 a0 hm3 (ne_ro tm3 Pq1.2.2.2.2.1 (by decide))).trans eq1
  have hm6 : a0 ∈ Lc4 := Gc4.1 _ hm3
  have tm6 : Tc4 a0 = (200, 0) := (Gc4.2.1 _ hm3 (ne_ro tm3 Pq1.2.2.2.2.1 (by decide))).trans tm3
  have hm7 : q1 ∈ Lc4 := Gc4.1 _ Pq1.2.2.2.1
  have tm7 : Tc4 q1 = (1, 0) := pc4
  refine tr_putR Z.1 Z.2.2.2.1 Sc4 hm6 tm6 rfl rfl rfl ec4 rfl (fun _ h => List.mem_cons_of_mem _ (List.mem_append_left _ (List.mem_append_left _ (List.mem_append_left _ (List.mem_append_left _ (List.mem_append_left _ (List.mem_append_left _ (List.mem_append_right _ h)))))))) tyX9_ok nmX9 0 (by decide) (Nat.le_of_ble_eq_true rfl) (Or.inr ⟨hnm, rfl, rfl⟩) (hts _ (List.mem_of_getElem? (i := 7) rfl)) dX9_init_12 rfl rfl (fun Eu8 Hu8 ku8 Su8 ou8 gu8 => ?_)
  have hu8 : Eu8 a0 = .inr (8, [.ref q1, .null, .null, .null, .null, .null, .null, .null, .int 0, .int 0, .int 0]) := gu8
  have Wu8 : Gr a0 [(1, 0), (27, 0), (26, 0), (25, 0), (24, 0), (23, 0), (22, 0), (21, 0), (20, 0)] L τ E Lc4 Tc4 Eu8 := Gr.wr Wc4 ou8 (Or.inl rfl)
  refine lv_aload_n hx hb dX9_init_15 rfl (lv_at hl 0 rfl) ?_
  refine tr_new Z.1 Z.2.2.2.1 Z.2.2.2.2.2 Su8 (fun _ h => List.mem_cons_of_mem _ (List.mem_append_left _ (List.mem_append_left _ (List.mem_append_left _ (List.mem_append_left _ (List.mem_append_left _ (List.mem_append_right _ h))))))) tyX3 tyX3_ok (hts _ (List.mem_of_getElem? (i := 8) rfl)) (hts _ (List.mem_of_getElem? (i := 9) rfl)) (hts _ (List.mem_of_getElem? (i := 10) rfl)) (ci := 2) rfl (fs := [.null, .int 0, .int 0]) (by decide +kernel) (204, 0) rfl rfl rfl (Ab.ne Ac4 (by decide)) (Nat.le_of_ble_eq_true rfl) (Nat.le_of_ble_eq_true rfl) dX9_init_16 (fun Lq9 Tq9 Eq9 q9 Hq9 Sq9 Pq9 gq9 => ?_)
  have Wq9 : Gr a0 [(204, 0), (1, 0), (27, 0), (26, 0), (25, 0), (24, 0), (23, 0), (22, 0), (21, 0), (20, 0)] L τ E Lq9 Tq9 Eq9 := Gr.push Wu8 Pq9
  have f10 : q9 ∉ L := Gr.fresh Wu8 Pq9
  have Aq9 : Ab Lq9 Tq9 [(0, 0), (4, 0), (29, 0), (229, 0), (201, 1), (205, 0), (5, 0), (30, 0), (100, 0), (101, 0), (102, 0), (103, 0), (104, 0), (105, 0), (106, 0), (107, 0), (108, 0), (109, 0), (110, 0), (111, 0), (112, 0), (206, 0), (6, 0), (207, 0), (7, 0), (32, 0), (33, 0), (34, 0), (35, 0), (36, 0), (208, 0), (8, 0), (201, 2), (1, 2), (20, 2), (21, 2), (22, 2), (23, 2), (24, 2), (25, 2), (26, 2), (27, 2), (205, 1), (5, 1), (30, 1), (100, 1), (101, 1), (102, 1), (103, 1), (104, 1), (105, 1), (106, 1), (107, 1), (108, 1), (109, 1), (110, 1), (111, 1), (112, 1), (206, 1), (6, 1), (37, 0), (38, 0), (209, 0), (9, 0), (39, 0), (31, 0), (28, 0)] := Ab.push Ac4 Pq9 (by decide) (by decide)
  have eq9 : Eq9 a0 = .inr (8, [.ref q1, .null, .null, .null, .null, .null, .null, .null, .int 0, .int 0, .int 0]) := (Pq9.2.2.1 a0 hm6).trans hu8
  have hm11 : a0 ∈ Lq9 := Pq9.1 _ hm6
  have tm11 : Tq9 a0 = (200, 0) := (Pq9.2.1 _ hm6).trans tm6
  have hm12 : q1 ∈ Lq9 := Pq9.1 _ hm7
  have tm12 : Tq9 q1 = (1, 0) := (Pq9.2.1 _ hm7).trans tm7
  refine lv_dup hx hb dX9_init_19 rfl ?_
  refine tc_I Z.1 Z.2.2.2.1 Z.2.2.2.2.1 Z.2.2.2.2.2 hO Sq9 (k_X3_init_0 l D cy Sq9.2 Pq9.2.2.2.1 Pq9.2.2.2.2.1 gq9 (Aq9.sub (by decide))) (cwI 0 hts gX9_init_X3_init rfl rfl rfl (hts _ (List.mem_of_getElem? (i := 10) rfl)) (hts _ (List.mem_of_getElem? (i := 58) rfl)) (hts _ (List.mem_of_getElem? (i := 59) rfl)) rfl (by decide +kernel) ⟨Nat.le_of_ble_eq_true rfl, Nat.le_of_ble_eq_true rfl⟩) rfl hl.1 rfl (Nat.le_of_ble_eq_true rfl) dX9_init_20 ⟨Nat.le_of_ble_eq_true rfl, Nat.le_of_ble_eq_true rfl⟩ (fun Lc13 Tc13 Ec13 Hc13 kc13 Sc13 Gc13 pc13 => ?_)
  have f14 : q9 ∉ L := Gr.fresh Wu8 Pq9
  have Wc13 : Gr a0 [(4, 0), (1, 1), (27, 1), (26, 1), (25, 1), (24, 1), (23, 1), (22, 1), (21, 1), (20, 1), (29, 0), (1, 0), (27, 0), (26, 0), (25, 0), (24, 0), (23, 0), (22, 0), (21, 0), (20, 0)] L τ E Lc13 Tc13 Ec13 := Gr.call Wq9 Gc13 f14 pc13 (Gr.one Wu8 Pq9)
  have Ac13 : Ab Lc13 Tc13 [(0, 0), (229, 0), (201, 1), (205, 0), (5, 0), (30, 0), (100, 0), (101, 0), (102, 0), (103, 0), (104, 0), (105, 0), (106, 0), (107, 0), (108, 0), (109, 0), (110, 0), (111, 0), (112, 0), (206, 0), (6, 0), (207, 0), (7, 0), (32, 0), (33, 0), (34, 0), (35, 0), (36, 0), (208, 0), (8, 0), (201, 2), (1, 2), (20, 2), (21, 2), (22, 2), (23, 2), (24, 2), (25, 2), (26, 2), (27, 2), (205, 1), (5, 1), (30, 1), (100, 1), (101, 1), (102, 1), (103, 1), (104, 1), (105, 1), (106, 1), (107, 1), (108, 1), (109, 1), (110, 1), (111, 1), (112, 1), (206, 1), (6, 1), (37, 0), (38, 0), (209, 0), (9, 0), (39, 0), (31, 0), (28, 0)] := Ab.call Aq9 Gc13 pc13 (by decide) (by decide) (by decide)
  have ec13 : Ec13 a0 = .inr (8, [.ref q1, .null, .null, .null, .null, .null, .null, .null, .int 0, .int 0, .int 0]) := (Gc13.2.2.1 a0 hm11 (ne_ro tm11 Pq9.2.2.2.2.1 (by decide))).trans eq9
  have hm15 : a0 ∈ Lc13 := Gc13.1 _ hm11
  have tm15 : Tc13 a0 = (200, 0) := (Gc13.2.1 _ hm11 (ne_ro tm11 Pq9.2.2.2.2.1 (by decide))).trans tm11
  have hm16 : q1 ∈ Lc13 := Gc13.1 _ hm12
  have tm16 : Tc13 q1 = (1, 0) := (Gc13.2.1 _ hm12 (ne_ro tm12 Pq9.2.2.2.2.1 (by decide))).trans tm12
  have hm17 : q9 ∈ Lc13 := Gc13.1 _ Pq9.2.2.2.1
  have tm17 : Tc13 q9 = (4, 0) := pc13
  refine tr_putR Z.1 Z.2.2.2.1 Sc13 hm15 tm15 rfl rfl rfl ec13 rfl (fun _ h => List.mem_cons_of_mem _ (List.mem_append_left _ (List.mem_append_left _ (List.mem_append_left _ (List.mem_append_left _ (List.mem_append_left _ (List.mem_append_left _ (List.mem_append_right _ h)))))))) tyX9_ok nmX9 1 (by decide) (Nat.le_of_ble_eq_true rfl) (Or.inr ⟨hnm, rfl, rfl⟩) (hts _ (List.mem_of_getElem? (i := 11) rfl)) dX9_init_23 rfl rfl (fun Eu18 Hu18 ku18 Su18 ou18 gu18 => ?_)
  have hu18 : Eu18 a0 = .inr (8, [.ref q1, .ref q9, .null, .null, .null, .null, .null, .null, .int 0, .int 0, .int 0]) := gu18
  have Wu18 : Gr a0 [(4, 0), (1, 1), (27, 1), (26, 1), (25, 1), (24, 1), (23, 1), (22, 1), (21, 1), (20, 1), (29, 0), (1, 0), (27, 0), (26, 0), (25, 0), (24, 0), (23, 0), (22, 0), (21, 0), (20, 0)] L τ E Lc13 Tc13 Eu18 := Gr.wr Wc13 ou18 (Or.inl rfl)
  refine lv_aload_n hx hb dX9_init_26 rfl (lv_at hl 0 rfl) ?_
  refine tr_new Z.1 Z.2.2.2.1 Z.2.2.2.2.2 Su18 (fun _ h => List.mem_cons_of_mem _ (List.mem_append_left _ (List.mem_append_left _ (List.mem_append_left _ (List.mem_append_left _ (List.mem_append_right _ h)))))) tyX6 tyX6_ok (hts _ (List.mem_of_getElem? (i := 12) rfl)) (hts _ (List.mem_of_getElem? (i := 13) rfl)) (hts _ (List.mem_of_getElem? (i := 14) rfl)) (ci := 5) rfl (fs := [.null, .int 0, .int 0, .int 0, .int 0]) (by decide +kernel) (205, 0) rfl rfl rfl (Ab.ne Ac13 (by decide)) (Nat.le_of_ble_eq_true rfl) (Nat.le_of_ble_eq_true rfl) dX9_init_27 (fun Lq19 Tq19 Eq19 q19 Hq19 Sq19 Pq19 gq19 => ?_)
  have Wq19 : Gr a0 [(205, 0), (4, 0), (1, 1), (27, 1), (26, 1), (25, 1), (24, 1), (23, 1), (22, 1), (21, 1), (20, 1), (29, 0), (1, 0), (27, 0), (26, 0), (25, 0), (24, 0), (23, 0), (22, 0), (21, 0), (20, 0)] L τ E Lq19 Tq19 Eq19 := Gr.push Wu18 Pq19
  have f20 : q19 ∉ L := Gr.fresh Wu18 Pq19
  have Aq19 : Ab Lq19 Tq19 [(0, 0), (229, 0), (201, 1), (5, 0), (30, 0), (100, 0), (101, 0), (102, 0), (103, 0), (104, 0), (105, 0), (106, 0), (107, 0), (108, 0), (109, 0), (110, 0), (111, 0), (112, 0), (206, 0), (6, 0), (207, 0), (7, 0), (32, 0), (33, 0), (34, 0), (35, 0), (36, 0), (208, 0), (8, 0), (201, 2), (1, 2), (20, 2), (21, 2), (22, 2), (23, 2), (24, 2), (25, 2), (26, 2), (27, 2), (205, 1), (5, 1), (30, 1), (100, 1), (101, 1), (102, 1), (103, 1), (104, 1), (105, 1), (106, 1), (107, 1), (108, 1), (109, 1), (110, 1), (111, 1), (112, 1), (206, 1), (6, 1), (37, 0), (38, 0), (209, 0), (9, 0), (39, 0), (31, 0), (28, 0)] := Ab.push Ac13 Pq19 (by decide) (by decide)
  have eq19 : Eq19 a0 = .inr (8, [.ref q1, .ref q9, .null, .null, .null, .null, .null, .null, .int 0, .int 0, .int 0]) := (Pq19.2.2.1 a0 hm15).trans hu18
  have hm21 : a0 ∈ Lq19 := Pq19.1 _ hm15
  have tm21 : Tq19 a0 = (200, 0) := (Pq19.2.1 _ hm15).trans tm15
  have hm22 : q1 ∈ Lq19 := Pq19.1 _ hm16
  have tm22 : Tq19 q1 = (1, 0) := (Pq19.2.1 _ hm16).trans tm16
  have hm23 : q9 ∈ Lq19 := Pq19.1 _ hm17
  have tm23 : Tq19 q9 = (4, 0) := (Pq19.2.1 _ hm17).trans tm17
  refine lv_dup hx hb dX9_init_30 rfl ?_
  refine tc_I Z.1 Z.2.2.2.1 Z.2.2.2.2.1 Z.2.2.2.2.2 hO Sq19 (k_X6_init_0 l D cy Sq19.2 Pq19.2.2.2.1 Pq19.2.2.2.2.1 gq19 (Aq19.sub (by decide))) (cwI 0 hts gX9_init_X6_init rfl rfl rfl (hts _ (List.mem_of_getElem? (i := 14) rfl)) (hts _ (List.mem_of_getElem? (i := 67) rfl)) (hts _ (List.mem_of_getElem? (i := 68) rfl)) rfl (by decide +kernel) ⟨Nat.le_of_ble_eq_true rfl, Nat.le_of_ble_eq_true rfl⟩) rfl hl.1 rfl (Nat.le_of_ble_eq_true rfl) dX9_init_31 ⟨Nat.le_of_ble_eq_true rfl, Nat.le_of_ble_eq_true rfl⟩ (fun Lc24 Tc24 Ec24 Hc24 kc24 Sc24 Gc24 pc24 => ?_)
  have f25 : q19 ∉ L := Gr.fresh Wu18 Pq19
  have Wc24 : Gr a0 [(5, 0), (30, 0), (100, 0), (101, 0), (102, 0), (103, 0), (104, 0), (105, 0), (106, 0), (107, 0), (108, 0), (109, 0), (110, 0), (111, 0), (112, 0), (4, 0), (1, 1), (27, 1), (26, 1), (25, 1), (24, 1), (23, 1), (22, 1), (21, 1), (20, 1), (29, 0), (1, 0), (27, 0), (26, 0), (25, 0), (24, 0), (23, 0), (22, 0), (21, 0), (20, 0)] L τ E Lc24 Tc24 Ec24 := Gr.call Wq19 Gc24 f25 pc24 (Gr.one Wu18 Pq19)
  have Ac24 : Ab Lc24 Tc24 [(0, 0), (229, 0), (201, 1), (206, 0), (6, 0), (207, 0), (7, 0), (32, 0), (33, 0), (34, 0), (35, 0), (36, 0), (208, 0), (8, 0), (201, 2), (1, 2), (20, 2), (21, 2), (22, 2), (23, 2), (24, 2), (25, 2), (26, 2), (27, 2), (205, 1), (5, 1), (30, 1), (100, 1), (101, 1), (102, 1), (103, 1), (104, 1), (105, 1), (106, 1), (107, 1), (108, 1), (109, 1), (110, 1), (111, 1), (112, 1), (206, 1), (6, 1), (37, 0), (38, 0), (209, 0), (9, 0), (39, 0), (31, 0), (28, 0)] := Ab.call Aq19 Gc24 pc24 (by decide) (by decide) (by decide)
  have ec24 : Ec24 a0 = .inr (8, [.ref q1, .ref q9, .null, .null, .null, .null, .null, .null, .int 0, .int 0, .int 0]) := (Gc24.2.2.1 a0 hm21 (ne_ro tm21 Pq19.2.2.2.2.1 (by decide))).trans eq19
  have hm26 : a0 ∈ Lc24 := Gc24.1 _ hm21
  have tm26 : Tc24 a0 = (200, 0) := (Gc24.2.1 _ hm21 (ne_ro tm21 Pq19.2.2.2.2.1 (by decide))).trans tm21
  have hm27 : q1 ∈ Lc24 := Gc24.1 _ hm22
  have tm27 : Tc24 q1 = (1, 0) := (Gc24.2.1 _ hm22 (ne_ro tm22 Pq19.2.2.2.2.1 (by decide))).trans tm22
  have hm28 : q9 ∈ Lc24 := Gc24.1 _ hm23
  have tm28 : Tc24 q9 = (4, 0) := (Gc24.2.1 _ hm23 (ne_ro tm23 Pq19.2.2.2.2.1 (by decide))).trans tm23
  have hm29 : q19 ∈ Lc24 := Gc24.1 _ Pq19.2.2.2.1
  have tm29 : Tc24 q19 = (5, 0) := pc24
  refine tr_putR Z.1 Z.2.2.2.1 Sc24 hm26 tm26 rfl rfl rfl ec24 rfl (fun _ h => List.mem_cons_of_mem _ (List.mem_append_left _ (List.mem_append_left _ (List.mem_append_left _ (List.mem_append_left _ (List.mem_append_left _ (List.mem_append_left _ (List.mem_append_right _ h)))))))) tyX9_ok nmX9 2 (by decide) (Nat.le_of_ble_eq_true rfl) (Or.inr ⟨hnm, rfl, rfl⟩) (hts _ (List.mem_of_getElem? (i := 15) rfl)) dX9_init_34 rfl rfl (fun Eu30 Hu30 ku30 Su30 ou30 gu30 => ?_)
  have hu30 : Eu30 a0 = .inr (8, [.ref q1, .ref q9, .ref q19, .null, .null, .null, .null, .null, .int 0, .int 0, .int 0]) := gu30
  have Wu30 : Gr a0 [(5, 0), (30, 0), (100, 0), (101, 0), (102, 0), (103, 0), (104, 0), (105, 0), (106, 0), (107, 0), (108, 0), (109, 0), (110, 0), (111, 0), (112, 0), (4, 0), (1, 1), (27, 1), (26, 1), (25, 1), (24, 1), (23, 1), (22, 1), (21, 1), (20, 1), (29, 0), (1, 0), (27, 0), (26, 0), (25, 0), (24, 0), (23, 0), (22, 0), (21, 0), (20, 0)] L τ E Lc24 Tc24 Eu30 := Gr.wr Wc24 ou30 (Or.inl rfl)
  refine lv_aload_n hx hb dX9_init_37 rfl (lv_at hl 0 rfl) ?_
  refine tr_new Z.1 Z.2.2.2.1 Z.2.2.2.2.2 Su30 (fun _ h => List.mem_cons_of_mem _ (List.mem_append_left _ (List.mem_append_left _ (List.mem_append_left _ (List.mem_append_right _ h))))) tyX8 tyX8_ok (hts _ (List.mem_of_getElem? (i := 16) rfl)) (hts _ (List.mem_of_getElem? (i := 17) rfl)) (hts _ (List.mem_of_getElem? (i := 18) rfl)) (ci := 7) rfl (fs := [.int 0, .int 0, .int 0, .int 0]) (by decide +kernel) (206, 0) rfl rfl rfl (Ab.ne Ac24 (by decide)) (Nat.le_of_ble_eq_true rfl) (Nat.le_of_ble_eq_true rfl) dX9_init_38 (fun Lq31 Tq31 Eq31 q31 Hq31 Sq31 Pq31 gq31 => ?_)
  have Wq31 : Gr a0 [(206, 0), (5, 0), (30, 0), (100, 0), (101, 0), (102, 0), (103, 0), (104, 0), (105, 0), (106, 0), (107, 0), (108, 0), (109, 0), (110, 0), (111, 0), (112, 0), (4, 0), (1, 1), (27, 1), (26, 1), (25, 1), (24, 1), (23, 1), (22, 1), (21, 1), (20, 1), (29, 0), (1, 0), (27, 0), (26, 0), (25, 0), (24, 0), (23, 0), (22, 0), (21, 0), (20, 0)] L τ E Lq31 Tq31 Eq31 := Gr.push Wu30 Pq31
  have f32 : q31 ∉ L := Gr.fresh Wu30 Pq31
  have Aq31 : Ab Lq31 Tq31 [(0, 0), (229, 0), (201, 1), (6, 0), (207, 0), (7, 0), (32, 0), (33, 0), (34, 0), (35, 0), (36, 0), (208, 0), (8, 0), (201, 2), (1, 2), (20, 2), (21, 2), (22, 2), (23, 2), (24, 2), (25, 2), (26, 2), (27, 2), (205, 1), (5, 1), (30, 1), (100, 1), (101, 1), (102, 1), (103, 1), (104, 1), (105, 1), (106, 1), (107, 1), (108, 1), (109, 1), (110, 1), (111, 1), (112, 1), (206, 1), (6, 1), (37, 0), (38, 0), (209, 0), (9, 0), (39, 0), (31, 0), (28, 0)] := Ab.push Ac24 Pq31 (by decide) (by decide)
  have eq31 : Eq31 a0 = .inr (8, [.ref q1, .ref q9, .ref q19, .null, .null, .null, .null, .null, .int 0, .int 0, .int 0]) := (Pq31.2.2.1 a0 hm26).trans hu30
  have hm33 : a0 ∈ Lq31 := Pq31.1 _ hm26
  have tm33 : Tq31 a0 = (200, 0) := (Pq31.2.1 _ hm26).trans tm26
  have hm34 : q1 ∈ Lq31 := Pq31.1 _ hm27
  have tm34 : Tq31 q1 = (1, 0) := (Pq31.2.1 _ hm27).trans tm27
  have hm35 : q9 ∈ Lq31 := Pq31.1 _ hm28
  have tm35 : Tq31 q9 = (4, 0) := (Pq31.2.1 _ hm28).trans tm28
  have hm36 : q19 ∈ Lq31 := Pq31.1 _ hm29
  have tm36 : Tq31 q19 = (5, 0) := (Pq31.2.1 _ hm29).trans tm29
  refine lv_dup hx hb dX9_init_41 rfl ?_
  refine tc_IN Z.1 Z.2.2.2.1 Z.2.2.2.2.1 Z.2.2.2.2.2 hO Sq31 (k_X8_init_0 l D cy Sq31.2 Pq31.2.2.2.1 Pq31.2.2.2.2.1 gq31 (Aq31.sub (by decide))) ⟨va_cnB (host := RX9) 0 hts gX9_init_X8_init_n32 rfl rfl rfl (Z.2.2.2.2.1 _ (by decide +kernel)) (hts _ (List.mem_of_getElem? (i := 18) rfl)) (by decide +kernel) ⟨Nat.le_of_ble_eq_true rfl, Nat.le_of_ble_eq_true rfl⟩, rfl, (hts _ (List.mem_of_getElem? (i := 81) rfl))⟩ rfl hl.1 rfl (Nat.le_of_ble_eq_true rfl) dX9_init_42 ⟨Nat.le_of_ble_eq_true rfl, Nat.le_of_ble_eq_true rfl⟩ (fun Lc37 Tc37 Ec37 Hc37 kc37 Sc37 Gc37 pc37 => ?_)
  have f38 : q31 ∉ L := Gr.fresh Wu30 Pq31
  have Wc37 : Gr a0 [(6, 0), (5, 0), (30, 0), (100, 0), (101, 0), (102, 0), (103, 0), (104, 0), (105, 0), (106, 0), (107, 0), (108, 0), (109, 0), (110, 0), (111, 0), (112, 0), (4, 0), (1, 1), (27, 1), (26, 1), (25, 1), (24, 1), (23, 1), (22, 1), (21, 1), (20, 1), (29, 0), (1, 0), (27, 0), (26, 0), (25, 0), (24, 0), (23, 0), (22, 0), (21, 0), (20, 0)] L τ E Lc37 Tc37 Ec37 := Gr.call Wq31 Gc37 f38 pc37 (Gr.one Wu30 Pq31)
  have Ac37 : Ab Lc37 Tc37 [(0, 0), (229, 0), (201, 1), (207, 0), (7, 0), (32, 0), (33, 0), (34, 0), (35, 0), (36, 0), (208, 0), (8, 0), (201, 2), (1, 2), (20, 2), (21, 2), (22, 2), (23, 2), (24, 2), (25, 2), (26, 2), (27, 2), (205, 1), (5, 1), (30, 1), (100, 1), (101, 1), (102, 1), (103, 1), (104, 1), (105, 1), (106, 1), (107, 1), (108, 1), (109, 1), (110, 1), (111, 1), (112, 1), (206, 1), (6, 1), (37, 0), (38, 0), (209, 0), (9, 0), (39, 0), (31, 0), (28, 0)] := Ab.call Aq31 Gc37 pc37 (by decide) (by decide) (by decide)
  have ec37 : Ec37 a0 = .inr (8, [.ref q1, .ref q9, .ref q19, .null, .null, .null, .null, .null, .int 0, .int 0, .int 0]) := (Gc37.2.2.1 a0 hm33 (ne_ro tm33 Pq31.2.2.2.2.1 (by decide))).trans eq31
  have hm39 : a0 ∈ Lc37 := Gc37.1 _ hm33
  have tm39 : Tc37 a0 = (200, 0) := (Gc37.2.1 _ hm33 (ne_ro tm33 Pq31.2.2.2.2.1 (by decide))).trans tm33
  have hm40 : q1 ∈ Lc37 := Gc37.1 _ hm34
  have tm40 : Tc37 q1 = (1, 0) := (Gc37.2.1 _ hm34 (ne_ro tm34 Pq31.2.2.2.2.1 (by decide))).trans tm34
  have hm41 : q9 ∈ Lc37 := Gc37.1 _ hm35
  have tm41 : Tc37 q9 = (4, 0) := (Gc37.2.1 _ hm35 (ne_ro tm35 Pq31.2.2.2.2.1 (by decide))).trans tm35
  have hm42 : q19 ∈ Lc37 := Gc37.1 _ hm36
  have tm42 : Tc37 q19 = (5, 0) := (Gc37.2.1 _ hm36 (ne_ro tm36 Pq31.2.2.2.2.1 (by decide))).trans tm36
  have hm43 : q31 ∈ Lc37 := Gc37.1 _ Pq31.2.2.2.1
  have tm43 : Tc37 q31 = (6, 0) := pc37
  refine tr_putR Z.1 Z.2.2.2.1 Sc37 hm39 tm39 rfl rfl rfl ec37 rfl (fun _ h => List.mem_cons_of_mem _ (List.mem_append_left _ (List.mem_append_left _ (List.mem_append_left _ (List.mem_append_left _ (List.mem_append_left _ (List.mem_append_left _ (List.mem_append_right _ h)))))))) tyX9_ok nmX9 3 (by decide) (Nat.le_of_ble_eq_true rfl) (Or.inr ⟨hnm, rfl, rfl⟩) (hts _ (List.mem_of_getElem? (i := 19) rfl)) dX9_init_45 rfl rfl (fun Eu44 Hu44 ku44 Su44 ou44 gu44 => ?_)
  have hu44 : Eu44 a0 = .inr (8, [.ref q1, .ref q9, .ref q19, .ref q31, .null, .null, .null, .null, .int 0, .int 0, .int 0]) := gu44
  have Wu44 : Gr a0 [(6, 0), (5, 0), (30, 0), (100, 0), (101, 0), (102, 0), (103, 0), (104, 0), (105, 0), (106, 0), (107, 0), (108, 0), (109, 0), (110, 0), (111, 0), (112, 0), (4, 0), (1, 1), (27, 1), (26, 1), (25, 1), (24, 1), (23, 1), (22, 1), (21, 1), (20, 1), (29, 0), (1, 0), (27, 0), (26, 0), (25, 0), (24, 0), (23, 0), (22, 0), (21, 0), (20, 0)] L τ E Lc37 Tc37 Eu44 := Gr.wr Wc37 ou44 (Or.inl rfl)
  refine lv_aload_n hx hb dX9_init_48 rfl (lv_at hl 0 rfl) ?_
  refine tr_new Z.1 Z.2.2.2.1 Z.2.2.2.2.2 Su44 (fun _ h => List.mem_cons_of_mem _ (List.mem_append_left _ (List.mem_append_left _ (List.mem_append_right _ h)))) tyX5 tyX5_ok (hts _ (List.mem_of_getElem? (i := 20) rfl)) (hts _ (List.mem_of_getElem? (i := 21) rfl)) (hts _ (List.mem_of_getElem? (i := 22) rfl)) (ci := 4) rfl (fs := [.null, .int 0, .int 0, .int 0, .int 0, .int 0, .int 0, .int 0, .int 0, .int 0, .null, .null, .null, .null]) (by decide +kernel) (207, 0) rfl rfl rfl (Ab.ne Ac37 (by decide)) (Nat.le_of_ble_eq_true rfl) (Nat.le_of_ble_eq_true rfl) dX9_init_49 (fun Lq45 Tq45 Eq45 q45 Hq45 Sq45 Pq45 gq45 => ?_)
  have Wq45 : Gr a0 [(207, 0), (6, 0), (5, 0), (30, 0), (100, 0), (101, 0), (102, 0), (103, 0), (104, 0), (105, 0), (106, 0), (107, 0), (108, 0), (109, 0), (110, 0), (111, 0), (112, 0), (4, 0), (1, 1), (27, 1), (26, 1), (25, 1), (24, 1), (23, 1), (22, 1), (21, 1), (20, 1), (29, 0), (1, 0), (27, 0), (26, 0), (25, 0), (24, 0), (23, 0), (22, 0), (21, 0), (20, 0)] L τ E Lq45 Tq45 Eq45 := Gr.push Wu44 Pq45
  have f46 : q45 ∉ L := Gr.fresh Wu44 Pq45
  have Aq45 : Ab Lq45 Tq45 [(0, 0), (229, 0), (201, 1), (7, 0), (32, 0), (33, 0), (34, 0), (35, 0), (36, 0), (208, 0), (8, 0), (201, 2), (1, 2), (20, 2), (21, 2), (22, 2), (23, 2), (24, 2), (25, 2), (26, 2), (27, 2), (205, 1), (5, 1), (30, 1), (100, 1), (101, 1), (102, 1), (103, 1), (104, 1), (105, 1), (106, 1), (107, 1), (108, 1), (109, 1), (110, 1), (111, 1), (112, 1), (206, 1), (6, 1), (37, 0), (38, 0), (209, 0), (9, 0), (39, 0), (31, 0), (28, 0)] := Ab.push Ac37 Pq45 (by decide) (by decide)
  have eq45 : Eq45 a0 = .inr (8, [.ref q1, .ref q9, .ref q19, .ref q31, .null, .null, .null, .null, .int 0, .int 0, .int 0]) := (Pq45.2.2.1 a0 hm39).trans hu44
  have hm47 : a0 ∈ Lq45 := Pq45.1 _ hm39
  have tm47 : Tq45 a0 = (200, 0) := (Pq45.2.1 _ hm39).trans tm39
  have hm48 : q1 ∈ Lq45 := Pq45.1 _ hm40
  have tm48 : Tq45 q1 = (1, 0) := (Pq45.2.1 _ hm40).trans tm40
  have hm49 : q9 ∈ Lq45 := Pq45.1 _ hm41
  have tm49 : Tq45 q9 = (4, 0) := (Pq45.2.1 _ hm41).trans tm41
  have hm50 : q19 ∈ Lq45 := Pq45.1 _ hm42
  have tm50 : Tq45 q19 = (5, 0) := (Pq45.2.1 _ hm42).trans tm42
  have hm51 : q31 ∈ Lq45 := Pq45.1 _ hm43
  have tm51 : Tq45 q31 = (6, 0) := (Pq45.2.1 _ hm43).trans tm43
  refine lv_dup hx hb dX9_init_52 rfl ?_
  refine tc_IN Z.1 Z.2.2.2.1 Z.2.2.2.2.1 Z.2.2.2.2.2 hO Sq45 (k_X5_init_0 l D cy Sq45.2 Pq45.2.2.2.1 Pq45.2.2.2.2.1 gq45 (Aq45.sub (by decide))) ⟨va_cnB (host := RX9) 0 hts gX9_init_X5_init_n39 rfl rfl rfl (Z.2.2.2.2.1 _ (by decide +kernel)) (hts _ (List.mem_of_getElem? (i := 22) rfl)) (by decide +kernel) ⟨Nat.le_of_ble_eq_true rfl, Nat.le_of_ble_eq_true rfl⟩, rfl, (hts _ (List.mem_of_getElem? (i := 88) rfl))⟩ rfl hl.1 rfl (Nat.le_of_ble_eq_true rfl) dX9_init_53 ⟨Nat.le_of_ble_eq_true rfl, Nat.le_of_ble_eq_true rfl⟩ (fun Lc52 Tc52 Ec52 Hc52 kc52 Sc52 Gc52 pc52 => ?_)
  have f53 : q45 ∉ L := Gr.fresh Wu44 Pq45
  have Wc52 : Gr a0 [(7, 0), (36, 0), (35, 0), (34, 0), (33, 0), (32, 0), (6, 0), (5, 0), (30, 0), (100, 0), (101, 0), (102, 0), (103, 0), (104, 0), (105, 0), (106, 0), (107, 0), (108, 0), (109, 0), (110, 0), (111, 0), (112, 0), (4, 0), (1, 1), (27, 1), (26, 1), (25, 1), (24, 1), (23, 1), (22, 1), (21, 1), (20, 1), (29, 0), (1, 0), (27, 0), (26, 0), (25, 0), (24, 0), (23, 0), (22, 0), (21, 0), (20, 0)] L τ E Lc52 Tc52 Ec52 := Gr.call Wq45 Gc52 f53 pc52.1 (Gr.one Wu44 Pq45)
  have Ac52 : Ab Lc52 Tc52 [(0, 0), (229, 0), (201, 1), (208, 0), (8, 0), (201, 2), (1, 2), (20, 2), (21, 2), (22, 2), (23, 2), (24, 2), (25, 2), (26, 2), (27, 2), (205, 1), (5, 1), (30, 1), (100, 1), (101, 1), (102, 1), (103, 1), (104, 1), (105, 1), (106, 1), (107, 1), (108, 1), (109, 1), (110, 1), (111, 1), (112, 1), (206, 1), (6, 1), (37, 0), (38, 0), (209, 0), (9, 0), (39, 0), (31, 0), (28, 0)] := Ab.call Aq45 Gc52 pc52.1 (by decide) (by decide) (by decide)
  have ec52 : Ec52 a0 = .inr (8, [.ref q1, .ref q9, .ref q19, .ref q31, .null, .null, .null, .null, .int 0, .int 0, .int 0]) := (Gc52.2.2.1 a0 hm47 (ne_ro tm47 Pq45.2.2.2.2.1 (by decide))).trans eq45
  have hm54 : a0 ∈ Lc52 := Gc52.1 _ hm47
  have tm54 : Tc52 a0 = (200, 0) := (Gc52.2.1 _ hm47 (ne_ro tm47 Pq45.2.2.2.2.1 (by decide))).trans tm47
  have hm55 : q1 ∈ Lc52 := Gc52.1 _ hm48
  have tm55 : Tc52 q1 = (1, 0) := (Gc52.2.1 _ hm48 (ne_ro tm48 Pq45.2.2.2.2.1 (by decide))).trans tm48
  have hm56 : q9 ∈ Lc52 := Gc52.1 _ hm49
  have tm56 : Tc52 q9 = (4, 0) := (Gc52.2.1 _ hm49 (ne_ro tm49 Pq45.2.2.2.2.1 (by decide))).trans tm49
  have hm57 : q19 ∈ Lc52 := Gc52.1 _ hm50
  have tm57 : Tc52 q19 = (5, 0) := (Gc52.2.1 _ hm50 (ne_ro tm50 Pq45.2.2.2.2.1 (by decide))).trans tm50
  have hm58 : q31 ∈ Lc52 := Gc52.1 _ hm51
  have tm58 : Tc52 q31 = (6, 0) := (Gc52.2.1 _ hm51 (ne_ro tm51 Pq45.2.2.2.2.1 (by decide))).trans tm51
  have hm59 : q45 ∈ Lc52 := Gc52.1 _ Pq45.2.2.2.1
  have tm59 : Tc52 q45 = (7, 0) := pc52.1
  refine tr_putR Z.1 Z.2.2.2.1 Sc52 hm54 tm54 rfl rfl rfl ec52 rfl (fun _ h => List.mem_cons_of_mem _ (List.mem_append_left _ (List.mem_append_left _ (List.mem_append_left _ (List.mem_append_left _ (List.mem_append_left _ (List.mem_append_left _ (List.mem_append_right _ h)))))))) tyX9_ok nmX9 4 (by decide) (Nat.le_of_ble_eq_true rfl) (Or.inr ⟨hnm, rfl, rfl⟩) (hts _ (List.mem_of_getElem? (i := 23) rfl)) dX9_init_56 rfl rfl (fun Eu60 Hu60 ku60 Su60 ou60 gu60 => ?_)
  have hu60 : Eu60 a0 = .inr (8, [.ref q1, .ref q9, .ref q19, .ref q31, .ref q45, .null, .null, .null, .int 0, .int 0, .int 0]) := gu60
  have Wu60 : Gr a0 [(7, 0), (36, 0), (35, 0), (34, 0), (33, 0), (32, 0), (6, 0), (5, 0), (30, 0), (100, 0), (101, 0), (102, 0), (103, 0), (104, 0), (105, 0), (106, 0), (107, 0), (108, 0), (109, 0), (110, 0), (111, 0), (112, 0), (4, 0), (1, 1), (27, 1), (26, 1), (25, 1), (24, 1), (23, 1), (22, 1), (21, 1), (20, 1), (29, 0), (1, 0), (27, 0), (26, 0), (25, 0), (24, 0), (23, 0), (22, 0), (21, 0), (20, 0)] L τ E Lc52 Tc52 Eu60 := Gr.wr Wc52 ou60 (Or.inl rfl)
  have tiu60_q45 : (fi Eu60 q45 1).toInt = 0 ∧ (fi Eu60 q45 4).toInt = 0 := ⟨by rw [show fi Eu60 q45 1 = fi Ec52 q45 1 by simp only [fi, fv, ou60 q45 (ne_ro tm59 tm54 (by decide))]]; exact pc52.2.1, by rw [show fi Eu60 q45 4 = fi Ec52 q45 4 by simp only [fi, fv, ou60 q45 (ne_ro tm59 tm54 (by decide))]]; exact pc52.2.2⟩
  refine lv_aload_n hx hb dX9_init_59 rfl (lv_at hl 0 rfl) ?_
  refine tr_new Z.1 Z.2.2.2.1 Z.2.2.2.2.2 Su60 (fun _ h => List.mem_cons_of_mem _ (List.mem_append_left _ (List.mem_append_right _ h))) tyX7 tyX7_ok (hts _ (List.mem_of_getElem? (i := 24) rfl)) (hts _ (List.mem_of_getElem? (i := 25) rfl)) (hts _ (List.mem_of_getElem? (i := 26) rfl)) (ci := 6) rfl (fs := [.null, .null, .null, .null, .null, .int 0, .int 0, .int 0, .int 0, .int 0, .int 0]) (by decide +kernel) (208, 0) rfl rfl rfl (Ab.ne Ac52 (by decide)) (Nat.le_of_ble_eq_true rfl) (Nat.le_of_ble_eq_true rfl) dX9_init_60 (fun Lq61 Tq61 Eq61 q61 Hq61 Sq61 Pq61 gq61 => ?_)
  have Wq61 : Gr a0 [(208, 0), (7, 0), (36, 0), (35, 0), (34, 0), (33, 0), (32, 0), (6, 0), (5, 0), (30, 0), (100, 0), (101, 0), (102, 0), (103, 0), (104, 0), (105, 0), (106, 0), (107, 0), (108, 0), (109, 0), (110, 0), (111, 0), (112, 0), (4, 0), (1, 1), (27, 1), (26, 1), (25, 1), (24, 1), (23, 1), (22, 1), (21, 1), (20, 1), (29, 0), (1, 0), (27, 0), (26, 0), (25, 0), (24, 0), (23, 0), (22, 0), (21, 0), (20, 0)] L τ E Lq61 Tq61 Eq61 := Gr.push Wu60 Pq61
  have f62 : q61 ∉ L := Gr.fresh Wu60 Pq61
  have Aq61 : Ab Lq61 Tq61 [(0, 0), (229, 0), (201, 1), (8, 0), (201, 2), (1, 2), (20, 2), (21, 2), (22, 2), (23, 2), (24, 2), (25, 2), (26, 2), (27, 2), (205, 1), (5, 1), (30, 1), (100, 1), (101, 1), (102, 1), (103, 1), (104, 1), (105, 1), (106, 1), (107, 1), (108, 1), (109, 1), (110, 1), (111, 1), (112, 1), (206, 1), (6, 1), (37, 0), (38, 0), (209, 0), (9, 0), (39, 0), (31, 0), (28, 0)] := Ab.push Ac52 Pq61 (by decide) (by decide)
  have eq61 : Eq61 a0 = .inr (8, [.ref q1, .ref q9, .ref q19, .ref q31, .ref q45, .null, .null, .null, .int 0, .int 0, .int 0]) := (Pq61.2.2.1 a0 hm54).trans hu60
  have hm63 : a0 ∈ Lq61 := Pq61.1 _ hm54
  have tm63 : Tq61 a0 = (200, 0) := (Pq61.2.1 _ hm54).trans tm54
  have hm64 : q1 ∈ Lq61 := Pq61.1 _ hm55
  have tm64 : Tq61 q1 = (1, 0) := (Pq61.2.1 _ hm55).trans tm55
  have hm65 : q9 ∈ Lq61 := Pq61.1 _ hm56
  have tm65 : Tq61 q9 = (4, 0) := (Pq61.2.1 _ hm56).trans tm56
  have hm66 : q19 ∈ Lq61 := Pq61.1 _ hm57
  have tm66 : Tq61 q19 = (5, 0) := (Pq61.2.1 _ hm57).trans tm57
  have hm67 : q31 ∈ Lq61 := Pq61.1 _ hm58
  have tm67 : Tq61 q31 = (6, 0) := (Pq61.2.1 _ hm58).trans tm58
  have hm68 : q45 ∈ Lq61 := Pq61.1 _ hm59
  have tm68 : Tq61 q45 = (7, 0) := (Pq61.2.1 _ hm59).trans tm59
  have tiq61_q45 : (fi Eq61 q45 1).toInt = 0 ∧ (fi Eq61 q45 4).toInt = 0 := ⟨by rw [show fi Eq61 q45 1 = fi Eu60 q45 1 by simp only [fi, fv, Pq61.2.2.1 q45 hm59]]; exact tiu60_q45.1, by rw [show fi Eq61 q45 4 = fi Eu60 q45 4 by simp only [fi, fv, Pq61.2.2.1 q45 hm59]]; exact tiu60_q45.2⟩
  refine lv_dup hx hb dX9_init_63 rfl ?_
  refine tc_IN Z.1 Z.2.2.2.1 Z.2.2.2.2.1 Z.2.2.2.2.2 hO Sq61 (k_X7_init_0 l D cy Sq61.2 Pq61.2.2.2.1 Pq61.2.2.2.2.1 gq61 (Aq61.sub (by decide))) ⟨va_cnB (host := RX9) 0 hts gX9_init_X7_init_n46 rfl rfl rfl (Z.2.2.2.2.1 _ (by decide +kernel)) (hts _ (List.mem_of_getElem? (i := 26) rfl)) (by decide +kernel) ⟨Nat.le_of_ble_eq_true rfl, Nat.le_of_ble_eq_true rfl⟩, rfl, (hts _ (List.mem_of_getElem? (i := 106) rfl))⟩ rfl hl.1 rfl (Nat.le_of_ble_eq_true rfl) dX9_init_64 ⟨Nat.le_of_ble_eq_true rfl, Nat.le_of_ble_eq_true rfl⟩ (fun Lc69 Tc69 Ec69 Hc69 kc69 Sc69 Gc69 pc69 => ?_)
  have f70 : q61 ∉ L := Gr.fresh Wu60 Pq61
  have Wc69 : Gr a0 [(8, 0), (38, 0), (37, 0), (6, 1), (5, 1), (30, 1), (100, 1), (101, 1), (102, 1), (103, 1), (104, 1), (105, 1), (106, 1), (107, 1), (108, 1), (109, 1), (110, 1), (111, 1), (112, 1), (1, 2), (27, 2), (26, 2), (25, 2), (24, 2), (23, 2), (22, 2), (21, 2), (20, 2), (7, 0), (36, 0), (35, 0), (34, 0), (33, 0), (32, 0), (6, 0), (5, 0), (30, 0), (100, 0), (101, 0), (102, 0), (103, 0), (104, 0), (105, 0), (106, 0), (107, 0), (108, 0), (109, 0), (110, 0), (111, 0), (112, 0), (4, 0), (1, 1), (27, 1), (26, 1), (25, 1), (24, 1), (23, 1), (22, 1), (21, 1), (20, 1), (29, 0), (1, 0), (27, 0), (26, 0), (25, 0), (24, 0), (23, 0), (22, 0), (21, 0), (20, 0)] L τ E Lc69 Tc69 Ec69 := Gr.call Wq61 Gc69 f70 pc69 (Gr.one Wu60 Pq61)
  have Ac69 : Ab Lc69 Tc69 [(0, 0), (229, 0), (201, 1), (201, 2), (205, 1), (206, 1), (209, 0), (9, 0), (39, 0), (31, 0), (28, 0)] := Ab.call Aq61 Gc69 pc69 (by decide) (by decide) (by decide)
  have ec69 : Ec69 a0 = .inr (8, [.ref q1, .ref q9, .ref q19, .ref q31, .ref q45, .null, .null, .null, .int 0, .int 0, .int 0]) := (Gc69.2.2.1 a0 hm63 (ne_ro tm63 Pq61.2.2.2.2.1 (by decide))).trans eq61
  have hm71 : a0 ∈ Lc69 := Gc69.1 _ hm63
  have tm71 : Tc69 a0 = (200, 0) := (Gc69.2.1 _ hm63 (ne_ro tm63 Pq61.2.2.2.2.1 (by decide))).trans tm63
  have hm72 : q1 ∈ Lc69 := Gc69.1 _ hm64
  have tm72 : Tc69 q1 = (1, 0) := (Gc69.2.1 _ hm64 (ne_ro tm64 Pq61.2.2.2.2.1 (by decide))).trans tm64
  have hm73 : q9 ∈ Lc69 := Gc69.1 _ hm65
  have tm73 : Tc69 q9 = (4, 0) := (Gc69.2.1 _ hm65 (ne_ro tm65 Pq61.2.2.2.2.1 (by decide))).trans tm65
  have hm74 : q19 ∈ Lc69 := Gc69.1 _ hm66
  have tm74 : Tc69 q19 = (5, 0) := (Gc69.2.1 _ hm66 (ne_ro tm66 Pq61.2.2.2.2.1 (by decide))).trans tm66
  have hm75 : q31 ∈ Lc69 := Gc69.1 _ hm67
  have tm75 : Tc69 q31 = (6, 0) := (Gc69.2.1 _ hm67 (ne_ro tm67 Pq61.2.2.2.2.1 (by decide))).trans tm67
  have hm76 : q45 ∈ Lc69 := Gc69.1 _ hm68
  have tm76 : Tc69 q45 = (7, 0) := (Gc69.2.1 _ hm68 (ne_ro tm68 Pq61.2.2.2.2.1 (by decide))).trans tm68
  have hm77 : q61 ∈ Lc69 := Gc69.1 _ Pq61.2.2.2.1
  have tm77 : Tc69 q61 = (8, 0) := pc69
  have tic69_q45 : (fi Ec69 q45 1).toInt = 0 ∧ (fi Ec69 q45 4).toInt = 0 := ⟨by rw [show fi Ec69 q45 1 = fi Eq61 q45 1 by simp only [fi, fv, Gc69.2.2.1 q45 hm68 (ne_ro tm68 Pq61.2.2.2.2.1 (by decide))]]; exact tiq61_q45.1, by rw [show fi Ec69 q45 4 = fi Eq61 q45 4 by simp only [fi, fv, Gc69.2.2.1 q45 hm68 (ne_ro tm68 Pq61.2.2.2.2.1 (by decide))]]; exact tiq61_q45.2⟩
  refine tr_putR Z.1 Z.2.2.2.1 Sc69 hm71 tm71 rfl rfl rfl ec69 rfl (fun _ h => List.mem_cons_of_mem _ (List.mem_append_left _ (List.mem_append_left _ (List.mem_append_left _ (List.mem_append_left _ (List.mem_append_left _ (List.mem_append_left _ (List.mem_append_right _ h)))))))) tyX9_ok nmX9 5 (by decide) (Nat.le_of_ble_eq_true rfl) (Or.inr ⟨hnm, rfl, rfl⟩) (hts _ (List.mem_of_getElem? (i := 27) rfl)) dX9_init_67 rfl rfl (fun Eu78 Hu78 ku78 Su78 ou78 gu78 => ?_)
  have hu78 : Eu78 a0 = .inr (8, [.ref q1, .ref q9, .ref q19, .ref q31, .ref q45, .ref q61, .null, .null, .int 0, .int 0, .int 0]) := gu78
  have Wu78 : Gr a0 [(8, 0), (38, 0), (37, 0), (6, 1), (5, 1), (30, 1), (100, 1), (101, 1), (102, 1), (103, 1), (104, 1), (105, 1), (106, 1), (107, 1), (108, 1), (109, 1), (110, 1), (111, 1), (112, 1), (1, 2), (27, 2), (26, 2), (25, 2), (24, 2), (23, 2), (22, 2), (21, 2), (20, 2), (7, 0), (36, 0), (35, 0), (34, 0), (33, 0), (32, 0), (6, 0), (5, 0), (30, 0), (100, 0), (101, 0), (102, 0), (103, 0), (104, 0), (105, 0), (106, 0), (107, 0), (108, 0), (109, 0), (110, 0), (111, 0), (112, 0), (4, 0), (1, 1), (27, 1), (26, 1), (25, 1), (24, 1), (23, 1), (22, 1), (21, 1), (20, 1), (29, 0), (1, 0), (27, 0), (26, 0), (25, 0), (24, 0), (23, 0), (22, 0), (21, 0), (20, 0)] L τ E Lc69 Tc69 Eu78 := Gr.wr Wc69 ou78 (Or.inl rfl)
  have tiu78_q45 : (fi Eu78 q45 1).toInt = 0 ∧ (fi Eu78 q45 4).toInt = 0 := ⟨by rw [show fi Eu78 q45 1 = fi Ec69 q45 1 by simp only [fi, fv, ou78 q45 (ne_ro tm76 tm71 (by decide))]]; exact tic69_q45.1, by rw [show fi Eu78 q45 4 = fi Ec69 q45 4 by simp only [fi, fv, ou78 q45 (ne_ro tm76 tm71 (by decide))]]; exact tic69_q45.2⟩
  refine lv_aload_n hx hb dX9_init_70 rfl (lv_at hl 0 rfl) ?_
  refine tr_new Z.1 Z.2.2.2.1 Z.2.2.2.2.2 Su78 (fun _ h => List.mem_cons_of_mem _ (List.mem_append_right _ h)) tyX0 tyX0_ok (hts _ (List.mem_of_getElem? (i := 28) rfl)) (hts _ (List.mem_of_getElem? (i := 29) rfl)) (hts _ (List.mem_of_getElem? (i := 30) rfl)) (ci := 0) rfl (fs := [.null, .null, .int 0]) (by decide +kernel) (209, 0) rfl rfl rfl (Ab.ne Ac69 (by decide)) (Nat.le_of_ble_eq_true rfl) (Nat.le_of_ble_eq_true rfl) dX9_init_71 (fun Lq79 Tq79 Eq79 q79 Hq79 Sq79 Pq79 gq79 => ?_)
  have Wq79 : Gr a0 [(209, 0), (8, 0), (38, 0), (37, 0), (6, 1), (5, 1), (30, 1), (100, 1), (101, 1), (102, 1), (103, 1), (104, 1), (105, 1), (106, 1), (107, 1), (108, 1), (109, 1), (110, 1), (111, 1), (112, 1), (1, 2), (27, 2), (26, 2), (25, 2), (24, 2), (23, 2), (22, 2), (21, 2), (20, 2), (7, 0), (36, 0), (35, 0), (34, 0), (33, 0), (32, 0), (6, 0), (5, 0), (30, 0), (100, 0), (101, 0), (102, 0), (103, 0), (104, 0), (105, 0), (106, 0), (107, 0), (108, 0), (109, 0), (110, 0), (111, 0), (112, 0), (4, 0), (1, 1), (27, 1), (26, 1), (25, 1), (24, 1), (23, 1), (22, 1), (21, 1), (20, 1), (29, 0), (1, 0), (27, 0), (26, 0), (25, 0), (24, 0), (23, 0), (22, 0), (21, 0), (20, 0)] L τ E Lq79 Tq79 Eq79 := Gr.push Wu78 Pq79
  have f80 : q79 ∉ L := Gr.fresh Wu78 Pq79
  have Aq79 : Ab Lq79 Tq79 [(0, 0), (229, 0), (201, 1), (201, 2), (205, 1), (206, 1), (9, 0), (39, 0), (31, 0), (28, 0)] := Ab.push Ac69 Pq79 (by decide) (by decide)
  have eq79 : Eq79 a0 = .inr (8, [.ref q1, .ref q9, .ref q19, .ref q31, .ref q45, .ref q61, .null, .null, .int 0, .int 0, .int 0]) := (Pq79.2.2.1 a0 hm71).trans hu78
  have hm81 : a0 ∈ Lq79 := Pq79.1 _ hm71
  have tm81 : Tq79 a0 = (200, 0) := (Pq79.2.1 _ hm71).trans tm71
  have hm82 : q1 ∈ Lq79 := Pq79.1 _ hm72
  have tm82 : Tq79 q1 = (1, 0) := (Pq79.2.1 _ hm72).trans tm72
  have hm83 : q9 ∈ Lq79 := Pq79.1 _ hm73
  have tm83 : Tq79 q9 = (4, 0) := (Pq79.2.1 _ hm73).trans tm73
  have hm84 : q19 ∈ Lq79 := Pq79.1 _ hm74
  have tm84 : Tq79 q19 = (5, 0) := (Pq79.2.1 _ hm74).trans tm74
  have hm85 : q31 ∈ Lq79 := Pq79.1 _ hm75
  have tm85 : Tq79 q31 = (6, 0) := (Pq79.2.1 _ hm75).trans tm75
  have hm86 : q45 ∈ Lq79 := Pq79.1 _ hm76
  have tm86 : Tq79 q45 = (7, 0) := (Pq79.2.1 _ hm76).trans tm76
  have hm87 : q61 ∈ Lq79 := Pq79.1 _ hm77
  have tm87 : Tq79 q61 = (8, 0) := (Pq79.2.1 _ hm77).trans tm77
  have tiq79_q45 : (fi Eq79 q45 1).toInt = 0 ∧ (fi Eq79 q45 4).toInt = 0 := ⟨by rw [show fi Eq79 q45 1 = fi Eu78 q45 1 by simp only [fi, fv, Pq79.2.2.1 q45 hm76]]; exact tiu78_q45.1, by rw [show fi Eq79 q45 4 = fi Eu78 q45 4 by simp only [fi, fv, Pq79.2.2.1 q45 hm76]]; exact tiu78_q45.2⟩
  refine lv_dup hx hb dX9_init_74 rfl ?_
  refine tc_IN Z.1 Z.2.2.2.1 Z.2.2.2.2.1 Z.2.2.2.2.2 hO Sq79 (k_X0_init_0 l D cy Sq79.2 Pq79.2.2.2.1 Pq79.2.2.2.2.1 gq79 (Aq79.sub (by decide))) ⟨va_cnB (host := RX9) 0 hts gX9_init_X0_init_n53 rfl rfl rfl (Z.2.2.2.2.1 _ (by decide +kernel)) (hts _ (List.mem_of_getElem? (i := 30) rfl)) (by decide +kernel) ⟨Nat.le_of_ble_eq_true rfl, Nat.le_of_ble_eq_true rfl⟩, rfl, (hts _ (List.mem_of_getElem? (i := 125) rfl))⟩ rfl hl.1 rfl (Nat.le_of_ble_eq_true rfl) dX9_init_75 ⟨Nat.le_of_ble_eq_true rfl, Nat.le_of_ble_eq_true rfl⟩ (fun Lc88 Tc88 Ec88 Hc88 kc88 Sc88 Gc88 pc88 => ?_)
  have f89 : q79 ∉ L := Gr.fresh Wu78 Pq79
  have Wc88 : Gr a0 [(9, 0), (31, 0), (39, 0), (8, 0), (38, 0), (37, 0), (6, 1), (5, 1), (30, 1), (100, 1), (101, 1), (102, 1), (103, 1), (104, 1), (105, 1), (106, 1), (107, 1), (108, 1), (109, 1), (110, 1), (111, 1), (112, 1), (1, 2), (27, 2), (26, 2), (25, 2), (24, 2), (23, 2), (22, 2), (21, 2), (20, 2), (7, 0), (36, 0), (35, 0), (34, 0), (33, 0), (32, 0), (6, 0), (5, 0), (30, 0), (100, 0), (101, 0), (102, 0), (103, 0), (104, 0), (105, 0), (106, 0), (107, 0), (108, 0), (109, 0), (110, 0), (111, 0), (112, 0), (4, 0), (1, 1), (27, 1), (26, 1), (25, 1), (24, 1), (23, 1), (22, 1), (21, 1), (20, 1), (29, 0), (1, 0), (27, 0), (26, 0), (25, 0), (24, 0), (23, 0), (22, 0), (21, 0), (20, 0)] L τ E Lc88 Tc88 Ec88 := Gr.call Wq79 Gc88 f89 pc88.1 (Gr.one Wu78 Pq79)
  have Ac88 : Ab Lc88 Tc88 [(0, 0), (229, 0), (201, 1), (201, 2), (205, 1), (206, 1), (28, 0)] := Ab.call Aq79 Gc88 pc88.1 (by decide) (by decide) (by decide)
  have ec88 : Ec88 a0 = .inr (8, [.ref q1, .ref q9, .ref q19, .ref q31, .ref q45, .ref q61, .null, .null, .int 0, .int 0, .int 0]) := (Gc88.2.2.1 a0 hm81 (ne_ro tm81 Pq79.2.2.2.2.1 (by decide))).trans eq79
  have hm90 : a0 ∈ Lc88 := Gc88.1 _ hm81
  have tm90 : Tc88 a0 = (200, 0) := (Gc88.2.1 _ hm81 (ne_ro tm81 Pq79.2.2.2.2.1 (by decide))).trans tm81
  have hm91 : q1 ∈ Lc88 := Gc88.1 _ hm82
  have tm91 : Tc88 q1 = (1, 0) := (Gc88.2.1 _ hm82 (ne_ro tm82 Pq79.2.2.2.2.1 (by decide))).trans tm82
  have hm92 : q9 ∈ Lc88 := Gc88.1 _ hm83
  have tm92 : Tc88 q9 = (4, 0) := (Gc88.2.1 _ hm83 (ne_ro tm83 Pq79.2.2.2.2.1 (by decide))).trans tm83
  have hm93 : q19 ∈ Lc88 := Gc88.1 _ hm84
  have tm93 : Tc88 q19 = (5, 0) := (Gc88.2.1 _ hm84 (ne_ro tm84 Pq79.2.2.2.2.1 (by decide))).trans tm84
  have hm94 : q31 ∈ Lc88 := Gc88.1 _ hm85
  have tm94 : Tc88 q31 = (6, 0) := (Gc88.2.1 _ hm85 (ne_ro tm85 Pq79.2.2.2.2.1 (by decide))).trans tm85
  have hm95 : q45 ∈ Lc88 := Gc88.1 _ hm86
  have tm95 : Tc88 q45 = (7, 0) := (Gc88.2.1 _ hm86 (ne_ro tm86 Pq79.2.2.2.2.1 (by decide))).trans tm86
  have hm96 : q61 ∈ Lc88 := Gc88.1 _ hm87
  have tm96 : Tc88 q61 = (8, 0) := (Gc88.2.1 _ hm87 (ne_ro tm87 Pq79.2.2.2.2.1 (by decide))).trans tm87
  have hm97 : q79 ∈ Lc88 := Gc88.1 _ Pq79.2.2.2.1
  have tm97 : Tc88 q79 = (9, 0) := pc88.1
  have tic88_q45 : (fi Ec88 q45 1).toInt = 0 ∧ (fi Ec88 q45 4).toInt = 0 := ⟨by rw [show fi Ec88 q45 1 = fi Eq79 q45 1 by simp only [fi, fv, Gc88.2.2.1 q45 hm86 (ne_ro tm86 Pq79.2.2.2.2.1 (by decide))]]; exact tiq79_q45.1, by rw [show fi Ec88 q45 4 = fi Eq79 q45 4 by simp only [fi, fv, Gc88.2.2.1 q45 hm86 (ne_ro tm86 Pq79.2.2.2.2.1 (by decide))]]; exact tiq79_q45.2⟩
  refine tr_putR Z.1 Z.2.2.2.1 Sc88 hm90 tm90 rfl rfl rfl ec88 rfl (fun _ h => List.mem_cons_of_mem _ (List.mem_append_left _ (List.mem_append_left _ (List.mem_append_left _ (List.mem_append_left _ (List.mem_append_left _ (List.mem_append_left _ (List.mem_append_right _ h)))))))) tyX9_ok nmX9 6 (by decide) (Nat.le_of_ble_eq_true rfl) (Or.inr ⟨hnm, rfl, rfl⟩) (hts _ (List.mem_of_getElem? (i := 31) rfl)) dX9_init_78 rfl rfl (fun Eu98 Hu98 ku98 Su98 ou98 gu98 => ?_)
  have hu98 : Eu98 a0 = .inr (8, [.ref q1, .ref q9, .ref q19, .ref q31, .ref q45, .ref q61, .ref q79, .null, .int 0, .int 0, .int 0]) := gu98
  have Wu98 : Gr a0 [(9, 0), (31, 0), (39, 0), (8, 0), (38, 0), (37, 0), (6, 1), (5, 1), (30, 1), (100, 1), (101, 1), (102, 1), (103, 1), (104, 1), (105, 1), (106, 1), (107, 1), (108, 1), (109, 1), (110, 1), (111, 1), (112, 1), (1, 2), (27, 2), (26, 2), (25, 2), (24, 2), (23, 2), (22, 2), (21, 2), (20, 2), (7, 0), (36, 0), (35, 0), (34, 0), (33, 0), (32, 0), (6, 0), (5, 0), (30, 0), (100, 0), (101, 0), (102, 0), (103, 0), (104, 0), (105, 0), (106, 0), (107, 0), (108, 0), (109, 0), (110, 0), (111, 0), (112, 0), (4, 0), (1, 1), (27, 1), (26, 1), (25, 1), (24, 1), (23, 1), (22, 1), (21, 1), (20, 1), (29, 0), (1, 0), (27, 0), (26, 0), (25, 0), (24, 0), (23, 0), (22, 0), (21, 0), (20, 0)] L τ E Lc88 Tc88 Eu98 := Gr.wr Wc88 ou98 (Or.inl rfl)
  have tiu98_q45 : (fi Eu98 q45 1).toInt = 0 ∧ (fi Eu98 q45 4).toInt = 0 := ⟨by rw [show fi Eu98 q45 1 = fi Ec88 q45 1 by simp only [fi, fv, ou98 q45 (ne_ro tm95 tm90 (by decide))]]; exact tic88_q45.1, by rw [show fi Eu98 q45 4 = fi Ec88 q45 4 by simp only [fi, fv, ou98 q45 (ne_ro tm95 tm90 (by decide))]]; exact tic88_q45.2⟩
  have tiu98_q79 : (fi Eu98 q79 2).toInt = 0 := by rw [show fi Eu98 q79 2 = fi Ec88 q79 2 by simp only [fi, fv, ou98 q79 (ne_ro tm97 tm90 (by decide))]]; exact pc88.2
  refine lv_aload_n hx hb dX9_init_81 rfl (lv_at hl 0 rfl) ?_
  obtain ⟨v99, ev99, tv99⟩ : ∃ v : Int32, (Int16.ofInt (264)).toInt32 = v ∧ v.toInt = 264 := ⟨_, rfl, by decide +kernel⟩
  refine lv_sipush hx hb dX9_init_82 ev99 ?_
  refine tr_newi Z.1 Z.2.2.2.1 Z.2.2.2.2.2 Su98 (hts _ (List.mem_of_getElem? (i := 32) rfl)) rfl 0 rfl 264 (by omega) (vc_ty _ rfl _) (Nat.le_of_ble_eq_true rfl) (28, 0) rfl rfl rfl (fun i => ⟨(by decide : (-2147483648 : Int) ≤ 0), (by decide : (0 : Int) ≤ 2147483647)⟩) (fun _ => Ab.ne Ac88 (by decide)) (Nat.le_of_ble_eq_true rfl) (Nat.le_of_ble_eq_true rfl) dX9_init_85 (fun Lq100 Tq100 Eq100 q100 Hq100 Sq100 Pq100 => ?_)
  have Wq100 : Gr a0 [(28, 0), (9, 0), (31, 0), (39, 0), (8, 0), (38, 0), (37, 0), (6, 1), (5, 1), (30, 1), (100, 1), (101, 1), (102, 1), (103, 1), (104, 1), (105, 1), (106, 1), (107, 1), (108, 1), (109, 1), (110, 1), (111, 1), (112, 1), (1, 2), (27, 2), (26, 2), (25, 2), (24, 2), (23, 2), (22, 2), (21, 2), (20, 2), (7, 0), (36, 0), (35, 0), (34, 0), (33, 0), (32, 0), (6, 0), (5, 0), (30, 0), (100, 0), (101, 0), (102, 0), (103, 0), (104, 0), (105, 0), (106, 0), (107, 0), (108, 0), (109, 0), (110, 0), (111, 0), (112, 0), (4, 0), (1, 1), (27, 1), (26, 1), (25, 1), (24, 1), (23, 1), (22, 1), (21, 1), (20, 1), (29, 0), (1, 0), (27, 0), (26, 0), (25, 0), (24, 0), (23, 0), (22, 0), (21, 0), (20, 0)] L τ E Lq100 Tq100 Eq100 := Gr.push Wu98 Pq100
  have f101 : q100 ∉ L := Gr.fresh Wu98 Pq100
  have Aq100 : Ab Lq100 Tq100 [(0, 0), (229, 0), (201, 1), (201, 2), (205, 1), (206, 1)] := Ab.push Ac88 Pq100 (by decide) (by decide)
  have eq100 : Eq100 a0 = .inr (8, [.ref q1, .ref q9, .ref q19, .ref q31, .ref q45, .ref q61, .ref q79, .null, .int 0, .int 0, .int 0]) := (Pq100.2.2.1 a0 hm90).trans hu98
  have hm102 : a0 ∈ Lq100 := Pq100.1 _ hm90
  have tm102 : Tq100 a0 = (200, 0) := (Pq100.2.1 _ hm90).trans tm90
  have hm103 : q1 ∈ Lq100 := Pq100.1 _ hm91
  have tm103 : Tq100 q1 = (1, 0) := (Pq100.2.1 _ hm91).trans tm91
  have hm104 : q9 ∈ Lq100 := Pq100.1 _ hm92
  have tm104 : Tq100 q9 = (4, 0) := (Pq100.2.1 _ hm92).trans tm92
  have hm105 : q19 ∈ Lq100 := Pq100.1 _ hm93
  have tm105 : Tq100 q19 = (5, 0) := (Pq100.2.1 _ hm93).trans tm93
  have hm106 : q31 ∈ Lq100 := Pq100.1 _ hm94
  have tm106 : Tq100 q31 = (6, 0) := (Pq100.2.1 _ hm94).trans tm94
  have hm107 : q45 ∈ Lq100 := Pq100.1 _ hm95
  have tm107 : Tq100 q45 = (7, 0) := (Pq100.2.1 _ hm95).trans tm95
  have hm108 : q61 ∈ Lq100 := Pq100.1 _ hm96
  have tm108 : Tq100 q61 = (8, 0) := (Pq100.2.1 _ hm96).trans tm96
  have hm109 : q79 ∈ Lq100 := Pq100.1 _ hm97
  have tm109 : Tq100 q79 = (9, 0) := (Pq100.2.1 _ hm97).trans tm97
  have tiq100_q45 : (fi Eq100 q45 1).toInt = 0 ∧ (fi Eq100 q45 4).toInt = 0 := ⟨by rw [show fi Eq100 q45 1 = fi Eu98 q45 1 by simp only [fi, fv, Pq100.2.2.1 q45 hm95]]; exact tiu98_q45.1, by rw [show fi Eq100 q45 4 = fi Eu98 q45 4 by simp only [fi, fv, Pq100.2.2.1 q45 hm95]]; exact tiu98_q45.2⟩
  have tiq100_q79 : (fi Eq100 q79 2).toInt = 0 := by rw [show fi Eq100 q79 2 = fi Eu98 q79 2 by simp only [fi, fv, Pq100.2.2.1 q79 hm97]]; exact tiu98_q79
  refine tr_putR Z.1 Z.2.2.2.1 Sq100 hm102 tm102 rfl rfl rfl eq100 rfl (fun _ h => List.mem_cons_of_mem _ (List.mem_append_left _ (List.mem_append_left _ (List.mem_append_left _ (List.mem_append_left _ (List.mem_append_left _ (List.mem_append_left _ (List.mem_append_right _ h)))))))) tyX9_ok nmX9 7 (by decide) (Nat.le_of_ble_eq_true rfl) (Or.inr ⟨hnm, rfl, rfl⟩) (hts _ (List.mem_of_getElem? (i := 33) rfl)) dX9_init_87 rfl rfl (fun Eu110 Hu110 ku110 Su110 ou110 gu110 => ?_)
  have hu110 : Eu110 a0 = .inr (8, [.ref q1, .ref q9, .ref q19, .ref q31, .ref q45, .ref q61, .ref q79, .ref q100, .int 0, .int 0, .int 0]) := gu110
  have Wu110 : Gr a0 [(28, 0), (9, 0), (31, 0), (39, 0), (8, 0), (38, 0), (37, 0), (6, 1), (5, 1), (30, 1), (100, 1), (101, 1), (102, 1), (103, 1), (104, 1), (105, 1), (106, 1), (107, 1), (108, 1), (109, 1), (110, 1), (111, 1), (112, 1), (1, 2), (27, 2), (26, 2), (25, 2), (24, 2), (23, 2), (22, 2), (21, 2), (20, 2), (7, 0), (36, 0), (35, 0), (34, 0), (33, 0), (32, 0), (6, 0), (5, 0), (30, 0), (100, 0), (101, 0), (102, 0), (103, 0), (104, 0), (105, 0), (106, 0), (107, 0), (108, 0), (109, 0), (110, 0), (111, 0), (112, 0), (4, 0), (1, 1), (27, 1), (26, 1), (25, 1), (24, 1), (23, 1), (22, 1), (21, 1), (20, 1), (29, 0), (1, 0), (27, 0), (26, 0), (25, 0), (24, 0), (23, 0), (22, 0), (21, 0), (20, 0)] L τ E Lq100 Tq100 Eu110 := Gr.wr Wq100 ou110 (Or.inl rfl)
  have tiu110_q45 : (fi Eu110 q45 1).toInt = 0 ∧ (fi Eu110 q45 4).toInt = 0 := ⟨by rw [show fi Eu110 q45 1 = fi Eq100 q45 1 by simp only [fi, fv, ou110 q45 (ne_ro tm107 tm102 (by decide))]]; exact tiq100_q45.1, by rw [show fi Eu110 q45 4 = fi Eq100 q45 4 by simp only [fi, fv, ou110 q45 (ne_ro tm107 tm102 (by decide))]]; exact tiq100_q45.2⟩
  have tiu110_q79 : (fi Eu110 q79 2).toInt = 0 := by rw [show fi Eu110 q79 2 = fi Eq100 q79 2 by simp only [fi, fv, ou110 q79 (ne_ro tm109 tm102 (by decide))]]; exact tiq100_q79
  refine lv_aload_n hx hb dX9_init_90 rfl (lv_at hl 0 rfl) ?_
  obtain ⟨v111, ev111, tv111⟩ : ∃ v : Int32, Int32.ofInt (0) = v ∧ v.toInt = 0 := ⟨_, rfl, by decide +kernel⟩
  refine lv_iconst hx hb dX9_init_91 ev111 ?_
  refine tr_putR Z.1 Z.2.2.2.1 Su110 hm102 tm102 rfl rfl rfl hu110 rfl (fun _ h => List.mem_cons_of_mem _ (List.mem_append_left _ (List.mem_append_left _ (List.mem_append_left _ (List.mem_append_left _ (List.mem_append_left _ (List.mem_append_left _ (List.mem_append_right _ h)))))))) tyX9_ok nmX9 8 (by decide) (Nat.le_of_ble_eq_true rfl) (Or.inl rfl) (hts _ (List.mem_of_getElem? (i := 34) rfl)) dX9_init_92 rfl rfl (fun Eu112 Hu112 ku112 Su112 ou112 gu112 => ?_)
  have hu112 : Eu112 a0 = .inr (8, [.ref q1, .ref q9, .ref q19, .ref q31, .ref q45, .ref q61, .ref q79, .ref q100, .int v111, .int 0, .int 0]) := gu112
  have Wu112 : Gr a0 [(28, 0), (9, 0), (31, 0), (39, 0), (8, 0), (38, 0), (37, 0), (6, 1), (5, 1), (30, 1), (100, 1), (101, 1), (102, 1), (103, 1), (104, 1), (105, 1), (106, 1), (107, 1), (108, 1), (109, 1), (110, 1), (111, 1), (112, 1), (1, 2), (27, 2), (26, 2), (25, 2), (24, 2), (23, 2), (22, 2), (21, 2), (20, 2), (7, 0), (36, 0), (35, 0), (34, 0), (33, 0), (32, 0), (6, 0), (5, 0), (30, 0), (100, 0), (101, 0), (102, 0), (103, 0), (104, 0), (105, 0), (106, 0), (107, 0), (108, 0), (109, 0), (110, 0), (111, 0), (112, 0), (4, 0), (1, 1), (27, 1), (26, 1), (25, 1), (24, 1), (23, 1), (22, 1), (21, 1), (20, 1), (29, 0), (1, 0), (27, 0), (26, 0), (25, 0), (24, 0), (23, 0), (22, 0), (21, 0), (20, 0)] L τ E Lq100 Tq100 Eu112 := Gr.wr Wu110 ou112 (Or.inl rfl)
  have tiu112_q45 : (fi Eu112 q45 1).toInt = 0 ∧ (fi Eu112 q45 4).toInt = 0 := ⟨by rw [show fi Eu112 q45 1 = fi Eu110 q45 1 by simp only [fi, fv, ou112 q45 (ne_ro tm107 tm102 (by decide))]]; exact tiu110_q45.1, by rw [show fi Eu112 q45 4 = fi Eu110 q45 4 by simp only [fi, fv, ou112 q45 (ne_ro tm107 tm102 (by decide))]]; exact tiu110_q45.2⟩
  have tiu112_q79 : (fi Eu112 q79 2).toInt = 0 := by rw [show fi Eu112 q79 2 = fi Eu110 q79 2 by simp only [fi, fv, ou112 q79 (ne_ro tm109 tm102 (by decide))]]; exact tiu110_q79
  refine lv_aload_n hx hb dX9_init_95 rfl (lv_at hl 0 rfl) ?_
  obtain ⟨v113, ev113, tv113⟩ : ∃ v : Int32, Int32.ofInt (0) = v ∧ v.toInt = 0 := ⟨_, rfl, by decide +kernel⟩
  refine lv_iconst hx hb dX9_init_96 ev113 ?_
  refine tr_putR Z.1 Z.2.2.2.1 Su112 hm102 tm102 rfl rfl rfl hu112 rfl (fun _ h => List.mem_cons_of_mem _ (List.mem_append_left _ (List.mem_append_left _ (List.mem_append_left _ (List.mem_append_left _ (List.mem_append_left _ (List.mem_append_left _ (List.mem_append_right _ h)))))))) tyX9_ok nmX9 9 (by decide) (Nat.le_of_ble_eq_true rfl) (Or.inl rfl) (hts _ (List.mem_of_getElem? (i := 35) rfl)) dX9_init_97 rfl rfl (fun Eu114 Hu114 ku114 Su114 ou114 gu114 => ?_)
  have hu114 : Eu114 a0 = .inr (8, [.ref q1, .ref q9, .ref q19, .ref q31, .ref q45, .ref q61, .ref q79, .ref q100, .int v111, .int v113, .int 0]) := gu114
  have Wu114 : Gr a0 [(28, 0), (9, 0), (31, 0), (39, 0), (8, 0), (38, 0), (37, 0), (6, 1), (5, 1), (30, 1), (100, 1), (101, 1), (102, 1), (103, 1), (104, 1), (105, 1), (106, 1), (107, 1), (108, 1), (109, 1), (110, 1), (111, 1), (112, 1), (1, 2), (27, 2), (26, 2), (25, 2), (24, 2), (23, 2), (22, 2), (21, 2), (20, 2), (7, 0), (36, 0), (35, 0), (34, 0), (33, 0), (32, 0), (6, 0), (5, 0), (30, 0), (100, 0), (101, 0), (102, 0), (103, 0), (104, 0), (105, 0), (106, 0), (107, 0), (108, 0), (109, 0), (110, 0), (111, 0), (112, 0), (4, 0), (1, 1), (27, 1), (26, 1), (25, 1), (24, 1), (23, 1), (22, 1), (21, 1), (20, 1), (29, 0), (1, 0), (27, 0), (26, 0), (25, 0), (24, 0), (23, 0), (22, 0), (21, 0), (20, 0)] L τ E Lq100 Tq100 Eu114 := Gr.wr Wu112 ou114 (Or.inl rfl)
  have tiu114_q45 : (fi Eu114 q45 1).toInt = 0 ∧ (fi Eu114 q45 4).toInt = 0 := ⟨by rw [show fi Eu114 q45 1 = fi Eu112 q45 1 by simp only [fi, fv, ou114 q45 (ne_ro tm107 tm102 (by decide))]]; exact tiu112_q45.1, by rw [show fi Eu114 q45 4 = fi Eu112 q45 4 by simp only [fi, fv, ou114 q45 (ne_ro tm107 tm102 (by decide))]]; exact tiu112_q45.2⟩
  have tiu114_q79 : (fi Eu114 q79 2).toInt = 0 := by rw [show fi Eu114 q79 2 = fi Eu112 q79 2 by simp only [fi, fv, ou114 q79 (ne_ro tm109 tm102 (by decide))]]; exact tiu112_q79
  refine lv_aload_n hx hb dX9_init_100 rfl (lv_at hl 0 rfl) ?_
  obtain ⟨v115, ev115, tv115⟩ : ∃ v : Int32, Int32.ofInt (1) = v ∧ v.toInt = 1 := ⟨_, rfl, by decide +kernel⟩
  refine lv_iconst hx hb dX9_init_101 ev115 ?_
  refine tr_putR Z.1 Z.2.2.2.1 Su114 hm102 tm102 rfl rfl rfl hu114 rfl (fun _ h => List.mem_cons_of_mem _ (List.mem_append_left _ (List.mem_append_left _ (List.mem_append_left _ (List.mem_append_left _ (List.mem_append_left _ (List.mem_append_left _ (List.mem_append_right _ h)))))))) tyX9_ok nmX9 10 (by decide) (Nat.le_of_ble_eq_true rfl) (Or.inl rfl) (hts _ (List.mem_of_getElem? (i := 36) rfl)) dX9_init_102 (by rw [fa_k 1 (show v115.toInt = (1 : Int32).toInt from tv115)]; decide +kernel) (by rw [fa_k 1 (show v115.toInt = (1 : Int32).toInt from tv115)]; decide +kernel) (fun Eu116 Hu116 ku116 Su116 ou116 gu116 => ?_)
  have hu116 : Eu116 a0 = .inr (8, [.ref q1, .ref q9, .ref q19, .ref q31, .ref q45, .ref q61, .ref q79, .ref q100, .int v111, .int v113, .int v115]) := gu116
  have Wu116 : Gr a0 [(28, 0), (9, 0), (31, 0), (39, 0), (8, 0), (38, 0), (37, 0), (6, 1), (5, 1), (30, 1), (100, 1), (101, 1), (102, 1), (103, 1), (104, 1), (105, 1), (106, 1), (107, 1), (108, 1), (109, 1), (110, 1), (111, 1), (112, 1), (1, 2), (27, 2), (26, 2), (25, 2), (24, 2), (23, 2), (22, 2), (21, 2), (20, 2), (7, 0), (36, 0), (35, 0), (34, 0), (33, 0), (32, 0), (6, 0), (5, 0), (30, 0), (100, 0), (101, 0), (102, 0), (103, 0), (104, 0), (105, 0), (106, 0), (107, 0), (108, 0), (109, 0), (110, 0), (111, 0), (112, 0), (4, 0), (1, 1), (27, 1), (26, 1), (25, 1), (24, 1), (23, 1), (22, 1), (21, 1), (20, 1), (29, 0), (1, 0), (27, 0), (26, 0), (25, 0), (24, 0), (23, 0), (22, 0), (21, 0), (20, 0)] L τ E Lq100 Tq100 Eu116 := Gr.wr Wu114 ou116 (Or.inl rfl)
  have tiu116_q45 : (fi Eu116 q45 1).toInt = 0 ∧ (fi Eu116 q45 4).toInt = 0 := ⟨by rw [show fi Eu116 q45 1 = fi Eu114 q45 1 by simp only [fi, fv, ou116 q45 (ne_ro tm107 tm102 (by decide))]]; exact tiu114_q45.1, by rw [show fi Eu116 q45 4 = fi Eu114 q45 4 by simp only [fi, fv, ou116 q45 (ne_ro tm107 tm102 (by decide))]]; exact tiu114_q45.2⟩
  have tiu116_q79 : (fi Eu116 q79 2).toInt = 0 := by rw [show fi Eu116 q79 2 = fi Eu114 q79 2 by simp only [fi, fv, ou116 q79 (ne_ro tm109 tm102 (by decide))]]; exact tiu114_q79
  have IR : Inv TB cy Lq100 (upT Tq100 a0 (0, 0)) Eu116 := inv_role Su116.2 tm102 (by decide) (fun _ => Ab.ne Aq100 (by decide)) (fun ci ts h => by
      have h : some ((8 : Nat), ([(1, 1, 0), (1, 4, 0), (1, 5, 0), (1, 6, 0), (1, 7, 0), (1, 8, 0), (1, 9, 0), (1, 28, 0), (0, 0, 264), (0, -2147483648, 2147483647), (0, 0, 1)] : List Ft)) = some (ci, ts) := h
      cases h
      exact okO_of hu116 ⟨⟨q1, rfl, hm103, (upT_ne (ne_ro tm103 tm102 (by decide))).trans tm103⟩, ⟨q9, rfl, hm104, (upT_ne (ne_ro tm104 tm102 (by decide))).trans tm104⟩, ⟨q19, rfl, hm105, (upT_ne (ne_ro tm105 tm102 (by decide))).trans tm105⟩, ⟨q31, rfl, hm106, (upT_ne (ne_ro tm106 tm102 (by decide))).trans tm106⟩, ⟨q45, rfl, hm107, (upT_ne (ne_ro tm107 tm102 (by decide))).trans tm107⟩, ⟨q61, rfl, hm108, (upT_ne (ne_ro tm108 tm102 (by decide))).trans tm108⟩, ⟨q79, rfl, hm109, (upT_ne (ne_ro tm109 tm102 (by decide))).trans tm109⟩, ⟨q100, rfl, Pq100.2.2.2.1, (upT_ne (ne_ro Pq100.2.2.2.2.1 tm102 (by decide))).trans Pq100.2.2.2.2.1⟩, ⟨v111, rfl, by dsimp only; omega, by dsimp only; omega⟩, ⟨v113, rfl, by dsimp only; omega, by dsimp only; omega⟩, ⟨v115, rfl, by dsimp only; omega, by dsimp only; omega⟩, trivial⟩) (fun _ _ _ h => nomatch h) (fun _ _ _ h => nomatch h)
  exact en_vG Z ⟨Su116.1, IR⟩ (post := fun L' τ' E' => τ' a0 = (0, 0) ∧ (fi E' a0 9).toInt = 0 ∧ (∃ q : Nat, q ∈ L' ∧ τ' q = (9, 0) ∧ (fi E' q 2).toInt = 0) ∧ ∃ q : Nat, q ∈ L' ∧ τ' q = (7, 0) ∧ (fi E' q 1).toInt = 0 ∧ (fi E' q 4).toInt = 0) (Gr.role Wu116 ha0) ⟨upT_self _ _ _, (by rw [show fi Eu116 a0 9 = v113 by simp only [fi, fv, hu116]; rfl]; omega), ⟨q79, hm109, (upT_ne (ne_ro tm109 tm102 (by decide))).trans tm109, tiu116_q79⟩, q45, hm107, (upT_ne (ne_ro tm107 tm102 (by decide))).trans tm107, tiu116_q45⟩ dX9_init_105

