/-! THE LAW'S START -/
theorem dL_law_0 : decode cL_law 0 = .ok (.new 8, 3) := by decide +kernel
theorem dL_law_3 : decode cL_law 3 = .ok (.dup, 1) := by decide +kernel
theorem dL_law_4 : decode cL_law 4 = .ok (.invokespecial 15, 3) := by decide +kernel
theorem dL_law_7 : decode cL_law 7 = .ok (.astore_n 1, 1) := by decide +kernel
theorem dL_law_8 : decode cL_law 8 = .ok (.new 16, 3) := by decide +kernel
theorem dL_law_11 : decode cL_law 11 = .ok (.dup, 1) := by decide +kernel
theorem dL_law_12 : decode cL_law 12 = .ok (.invokespecial 18, 3) := by decide +kernel
theorem dL_law_15 : decode cL_law 15 = .ok (.astore_n 2, 1) := by decide +kernel
theorem dL_law_16 : decode cL_law 16 = .ok (.iconst 1, 1) := by decide +kernel
theorem dL_law_17 : decode cL_law 17 = .ok (.newarray .long, 2) := by decide +kernel
theorem dL_law_19 : decode cL_law 19 = .ok (.astore_n 3, 1) := by decide +kernel
set_option maxRecDepth 100000 in
theorem ggL_law_X9_init : GoodIn wsL_law wsX9_init := goodIn_r _ [9, 10, 11, 12, 13, 14, 15, 16, 17, 18, 19, 20, 21, 22, 23, 24, 25, 26, 27, 28, 29, 30, 31, 32, 33, 34, 35, 36, 37, 38, 39, 40, 41, 42, 43, 44, 45, 46, 47, 48, 49, 50, 51, 52, 53, 54, 55, 56, 57, 58, 59, 60, 61, 62, 63, 64, 65, 66, 67, 68, 69, 70, 71, 72, 73, 74, 75, 76, 77, 78, 79, 80, 81, 82, 83, 84, 85, 86, 87, 88, 89, 90, 91, 92, 93, 94, 95, 96, 97, 98, 99, 100, 101, 102, 103, 104, 105, 106, 107, 108, 109, 110, 111, 112, 113, 114, 115, 116, 117, 118, 119, 120, 121, 122, 123, 124, 125, 126, 127, 128, 129, 130, 131, 132, 133, 134, 135, 136, 137, 138, 139, 1057, 1058, 1059, 1060, 1061, 1062, 1063, 1064, 1065, 1066, 1067, 1068, 1069, 1070, 1071, 1072, 998, 999, 1000, 1001, 1002, 1003, 1004, 1005, 1006, 1007, 1008, 1073, 1074, 1075, 1076, 1077, 1078, 1079, 1080, 1081, 1082, 1083, 1084, 1085, 1086, 1087, 1088, 1089, 1090, 1091, 1092, 1093, 1094, 1095, 1096, 1097, 1098, 1099, 1100, 1101, 1102, 1103, 1104, 1105, 1106, 1107, 1108, 1109, 1110, 1111, 1112] rfl (by decide +kernel)
set_option maxRecDepth 100000 in
theorem gL_law_X9_init : GoodIn wsL_law (wsX9_init) := ggL_law_X9_init
set_option maxRecDepth 100000 in
theorem ggL_law_X10_init : GoodIn wsL_law wsX10_init := goodIn_r _ [142, 143, 11, 12, 41, 144, 145, 146, 147, 148, 149, 150, 151, 152, 153, 154, 155, 156, 100, 157, 158, 159, 160, 161, 162, 163, 164, 165, 166, 167, 168, 169, 170, 171, 172, 1009, 1010, 1011, 1012, 1013, 1014, 1015, 1016, 1017, 1018, 1019, 1020, 1021, 1022, 1023, 1024, 1025, 1026, 1027, 1028, 1029, 1030, 1031, 1032, 1033, 1034, 1035, 1036, 1037, 1038, 1039, 1040, 1041, 1042, 1043, 1044, 1045, 1046, 1047, 1048, 1049, 1050, 1051, 1052, 1053, 1054, 1055, 1056] rfl (by decide +kernel)
set_option maxRecDepth 100000 in
theorem gL_law_X10_init : GoodIn wsL_law (wsX10_init) := ggL_law_X10_init
def ns10 : List Ro := [(11, 0), (60, 0), (61, 0), (62, 0), (63, 0), (64, 0), (65, 0), (66, 0), (67, 0), (68, 0), (69, 0), (70, 0), (71, 0), (72, 0), (73, 0), (74, 0), (75, 0), (76, 0), (77, 0), (78, 0), (79, 0), (80, 0), (81, 0), (82, 0), (83, 0), (84, 0), (85, 0), (86, 0)]
def ns3 : List Ro := [(250, 0), (210, 0)] ++ ns10
def ns2 : List Ro := (211, 0) :: ns3
def ns1 : List Ro := [(0, 0), (201, 0), (1, 0), (20, 0), (21, 0), (22, 0), (23, 0), (24, 0), (25, 0), (26, 0), (27, 0), (204, 0), (4, 0), (29, 0), (229, 0), (201, 1), (205, 0), (5, 0), (30, 0), (100, 0), (101, 0), (102, 0), (103, 0), (104, 0), (105, 0), (106, 0), (107, 0), (108, 0), (109, 0), (110, 0), (111, 0), (112, 0), (206, 0), (6, 0), (207, 0), (7, 0), (32, 0), (33, 0), (34, 0), (35, 0), (36, 0), (208, 0), (8, 0), (201, 2), (1, 2), (20, 2), (21, 2), (22, 2), (23, 2), (24, 2), (25, 2), (26, 2), (27, 2), (205, 1), (5, 1), (30, 1), (100, 1), (101, 1), (102, 1), (103, 1), (104, 1), (105, 1), (106, 1), (107, 1), (108, 1), (109, 1), (110, 1), (111, 1), (112, 1), (206, 1), (6, 1), (37, 0), (38, 0), (209, 0), (9, 0), (39, 0), (31, 0), (28, 0)] ++ ns2
set_option maxHeartbeats 8000000 in
set_option maxRecDepth 100000 in
theorem whole_start {p : Program} {e : Env} {s : State} {m : MethodId} {below : List Frame} {meth : Method} {c : Code} (l : Launch) (hlt : l.stackTraces = false) {b L : Nat} {xs : Nat → Int32} (hL : L ≤ 3072) (C0 : lw_At p s m meth c b L xs) : W p l e room_1 s m #[Value.ref b] below meth c s.heap [] 0 0 (lw_Z below #[Value.ref b] s) (entryFrame m ([Value.ref b] : List Value).toArray 7) := by
  obtain ⟨hx, hb, hr, hml, hown, ht0, hX, hbl, hlk, hgv⟩ := C0
  have ao1 := ht0 (.arrayOver (.object RX1)) (by decide +kernel)
  have ao4 := ht0 (.arrayOver (.object RX4)) (by decide +kernel)
  have aoi := ht0 (.arrayOver (.array .int)) (by decide +kernel)
  obtain ⟨D, cy, cL, hK, hKL⟩ := st_K ht0 ao1 ao4 aoi
  have hO : Ao s := ⟨va_AO.of ao1, va_AO.of ao4, aoi⟩
  have hN : Nx s := st_Nx ht0
  obtain ⟨G, hSW⟩ := st_SW ht0 hgv
  obtain ⟨tx, sa, hTX⟩ := st_TX ht0 hgv
  have hA : ∀ q, s.heap.size ≤ q → (fun q => s.heap.size ≤ q) q := fun _ h => h
  have C : CallFix p m c cL_law 7 s #[Value.ref b] wsL_law RL := ⟨hx, hb, hml, hown, fun w h => ht0 w (wl_in w h)⟩
  have hbA : ¬ (fun q => s.heap.size ≤ q) b := Nat.not_le.mpr hbl
  have X : LC p l s m meth c D cy (fun q => s.heap.size ≤ q) G tx sa cL b L xs := ⟨C, hK, hN, hA, hSW, hTX, hKL, hX, hbl, hbA, hlt, hL⟩
  have hts := C.2.2.2.2
  have S0 : NowG D cy (fun q => s.heap.size ≤ q) s [] (fun _ => (0, 0)) (fun _ => .inr (0, [])) s.heap [] := ⟨⟨fun k q h => (by simp [va_pl] at h), ⟨fun i j p q h => (by simp [va_pl] at h), fun k q h => (by simp [va_pl] at h)⟩, va_S.rf⟩, ⟨fun a h => (by cases h), fun a h => (by cases h), fun a h => (by cases h), fun a h => (by cases h)⟩⟩
  have A0 : Ab ([] : List Nat) (fun _ => ((0, 0) : Ro)) ns1 := fun b h => by cases h
  have hlv := lv_entry [Value.ref b] (n := 7) (Nat.le_of_ble_eq_true rfl)
  rw [lg_entry_eq]
  generalize (lg_sl [Value.ref b] ++ List.replicate (7 - (lg_sl [Value.ref b]).length) Slot.unset).toArray = ls at hlv ⊢
  have hl0 : lv_has ls 7 [(0, .ref b)] := hlv
  refine tr_new C hK hA S0 (fun _ h => List.mem_append_left _ (List.mem_append_left _ (List.mem_append_left _ (List.mem_append_left _ (List.mem_append_left _ (List.mem_append_left _ (List.mem_append_left _ (List.mem_append_left _ (List.mem_append_left _ (List.mem_append_left _ (List.mem_append_left _ (List.mem_append_right _ h)))))))))))) tyX9 tyX9_ok (hts _ (List.mem_of_getElem? (i := 0) rfl)) (hts _ (List.mem_of_getElem? (i := 1) rfl)) (hts _ (List.mem_of_getElem? (i := 2) rfl)) (ci := 8) rfl (fs := [.null, .null, .null, .null, .null, .null, .null, .null, .int 0, .int 0, .int 0]) (by decide +kernel) (200, 0) rfl rfl rfl (fun b h => by cases h) (Nat.le_of_ble_eq_true rfl) (Nat.le_of_ble_eq_true rfl) dL_law_0 (fun L1 T1 E1 q1 H1 S1 P1 g1 => ?_)
  have A1 : Ab L1 T1 ns1 := Ab.push A0 P1 (by decide +kernel) (by decide +kernel)
  refine lv_dup hx hb dL_law_3 rfl ?_
  refine tc_I C hK hN hA hO S1 (k_X9_init_0 l D cy S1.2 P1.2.2.2.1 P1.2.2.2.2.1 g1 (A1.sub (by decide +kernel))) (cwI 0 hts gL_law_X9_init rfl rfl rfl (hts _ (List.mem_of_getElem? (i := 2) rfl)) (hts _ (List.mem_of_getElem? (i := 7) rfl)) (hts _ (List.mem_of_getElem? (i := 8) rfl)) rfl (by decide +kernel) ⟨Nat.le_of_ble_eq_true rfl, Nat.le_of_ble_eq_true rfl⟩) rfl hl0.1 rfl (Nat.le_of_ble_eq_true rfl) dL_law_4 ⟨Nat.le_of_ble_eq_true rfl, Nat.le_of_ble_eq_true rfl⟩ (fun L2 T2 E2 H2 k2 S2 G2 p2 => ?_)
  obtain ⟨p2, zx9, -, qb, hqb, tqb, zqb, zq4⟩ := p2
  have A2 : Ab L2 T2 ns2 := Ab.call A1 G2 p2 (by decide +kernel) (by decide +kernel) (by decide +kernel)
  have x2 : q1 ∈ L2 := G2.1 _ P1.2.2.2.1
  refine lv_astore_n (lv' := [(1, .ref q1), (0, .ref b)]) hx hb dL_law_7 rfl hl0 (by decide) rfl (fun l1 hl1 => ?_)
  refine tr_new C hK hA S2 (fun _ h => List.mem_append_left _ (List.mem_append_left _ (List.mem_append_left _ (List.mem_append_left _ (List.mem_append_left _ (List.mem_append_left _ (List.mem_append_left _ (List.mem_append_left _ (List.mem_append_left _ (List.mem_append_left _ (List.mem_append_right _ h))))))))))) tyX10 tyX10_ok (hts _ (List.mem_of_getElem? (i := 3) rfl)) (hts _ (List.mem_of_getElem? (i := 4) rfl)) (hts _ (List.mem_of_getElem? (i := 5) rfl)) (ci := 9) rfl (fs := [.null, .null, .int 0, .int 0, .int 0, .int 0, .int 0, .null, .int 0, .null, .null, .null, .null, .null, .null, .null, .null, .null, .null, .null, .int 0, .int 0, .int 0, .null, .null, .null, .null, .null, .null, .null, .int 0, .int 0, .int 0, .null, .null, .int 0, .int 0, .int 0, .int 0, .int 0, .int 0, .int 0, .null, .null, .null, .int 0, .null, .int 0]) (by decide +kernel) (211, 0) rfl rfl rfl (Ab.ne A2 (by decide +kernel)) (Nat.le_of_ble_eq_true rfl) (Nat.le_of_ble_eq_true rfl) dL_law_8 (fun L3 T3 E3 q3 H3 S3 P3 g3 => ?_)
  have A3 : Ab L3 T3 ns3 := Ab.push A2 P3 (by decide +kernel) (by decide +kernel)
  have x3 : q1 ∈ L3 := P3.1 _ x2
  have tx3 : T3 q1 = (0, 0) := (P3.2.1 _ x2).trans p2
  refine lv_dup hx hb dL_law_11 rfl ?_
  refine tc_I C hK hN hA hO S3 (k_X10_init_0 l D cy S3.2 P3.2.2.2.1 P3.2.2.2.2.1 g3 (A3.sub (by decide +kernel))) (cwI 0 hts gL_law_X10_init rfl rfl rfl (hts _ (List.mem_of_getElem? (i := 5) rfl)) (hts _ (List.mem_of_getElem? (i := 140) rfl)) (hts _ (List.mem_of_getElem? (i := 141) rfl)) rfl (by decide +kernel) ⟨Nat.le_of_ble_eq_true rfl, Nat.le_of_ble_eq_true rfl⟩) rfl hl1.1 rfl (Nat.le_of_ble_eq_true rfl) dL_law_12 ⟨Nat.le_of_ble_eq_true rfl, Nat.le_of_ble_eq_true rfl⟩ (fun L4 T4 E4 H4 k4 S4 G4 p4 => ?_)
  have A4 : Ab L4 T4 [(250, 0), (210, 0)] := Ab.call A3 G4 p4.1 (by decide +kernel) (by decide +kernel) (by decide +kernel)
  have x4 : q1 ∈ L4 := G4.1 _ x3
  have tx4 : T4 q1 = (0, 0) := (G4.2.1 _ x3 (ne_ro tx3 P3.2.2.2.2.1 (by decide))).trans tx3
  have m4 : q3 ∈ L4 := G4.1 _ P3.2.2.2.1
  obtain ⟨tm4, z4, z45, z20, zf5, zt3, qz, hz, tz, ez⟩ := p4
  refine lv_astore_n (lv' := [(2, .ref q3), (1, .ref q1), (0, .ref b)]) hx hb dL_law_15 rfl hl1 (by decide) rfl (fun l2 hl2 => ?_)
  obtain ⟨v1, ev1, tv1⟩ : ∃ v : Int32, Int32.ofInt (1) = v ∧ v.toInt = 1 := ⟨_, rfl, by decide +kernel⟩
  refine lv_iconst hx hb dL_law_16 ev1 ?_
  refine va_newa (ty := .long) (a0 := (1, .inr (.inl (fun _ => 0)))) (N' := 1) hx hb (hts _ (List.mem_of_getElem? (i := 6) rfl)) rfl hK S4.1.1 S4.1.2.1 S4.1.2.2 hA (fun cA => rfl) (fun q => by have := nu_lt0 q; omega) (by show v1.toInt.toNat = 1; omega) (by decide) (Nat.le_of_ble_eq_true rfl) (Nat.le_of_ble_eq_true rfl) dL_law_17 (fun q5 cA H5 hK5 hP5 hD5 hS5 => ?_)
  have hcA : cA = cL := Option.some.inj ((hK5.2 6 (cA, .long) rfl).2.symm.trans (hKL.2 0 (cL, .long) rfl).2)
  have hq5 := q_fresh hD5
  obtain ⟨L5, T5, E5, S5, P5, g5⟩ : ∃ (L5 : List Nat) (T5 : Nat → Ro) (E5 : Ec), NowG D cy (fun q => s.heap.size ≤ q) s L5 T5 E5 H5 k4 ∧ Psh L4 T4 E4 L5 T5 E5 q5 (250, 0) ∧ E5 q5 = .inl (cL, 1, .inr (.inl (fun _ => 0))) := by
    refine ⟨_, upT T4 q5 (250, 0), _, ⟨wd_push hq5 hP5 hD5 hS5, inv_push S4.2 hq5 (fun _ => Ab.ne A4 (by decide)) (fun ci ts h => ?_) (fun j n w h => ?_) (fun j n t h => ?_)⟩, psh_push hq5, ?_⟩
    · exact nomatch ((show tObj (250, 0) = none from rfl).symm.trans h)
    · exact nomatch ((show tInt (250, 0) = none from rfl).symm.trans h)
    · exact nomatch ((show tRef (250, 0) = none from rfl).symm.trans h)
    · rw [va_up_self, hcA]
  have A5 : Ab L5 T5 [(210, 0)] := Ab.push A4 P5 (by decide) (by decide)
  have m5 : q3 ∈ L5 := P5.1 _ m4
  have tm5 : T5 q3 = (11, 0) := (P5.2.1 _ m4).trans tm4
  have z5 : (fi E5 q3 2).toInt = 0 := by
    have e : fi E5 q3 2 = fi E4 q3 2 := by simp only [fi, fv, P5.2.2.1 q3 m4]
    rw [e]; exact z4
  have hz5 : qz ∈ L5 := P5.1 _ hz
  have tz5 : T5 qz = (76, 0) := (P5.2.1 _ hz).trans tz
  have hCh : Chain L5 T5 E5 := by
    intro m' hm' tm' q hq tq p hp tp
    have u : q3 = m' := S5.2.2.2.2 _ m5 _ hm' (tm5.trans tm'.symm) (by rw [tm5]; rfl)
    subst u
    exact ⟨fun a ha => by rw [z5] at ha; exact absurd ha (Nat.not_lt_zero _), fun a ha => by rw [z5] at ha; exact absurd ha (Nat.succ_ne_zero _)⟩
  have b3 : qb ∈ L3 := P3.1 _ hqb
  have tb3 : T3 qb = (7, 0) := (P3.2.1 _ hqb).trans tqb
  have n3 : qb ≠ q3 := ne_ro tb3 P3.2.2.2.2.1 (by decide)
  have b4 : qb ∈ L4 := G4.1 _ b3
  have tb4 : T4 qb = (7, 0) := (G4.2.1 _ b3 n3).trans tb3
  have b5 : qb ∈ L5 := P5.1 _ b4
  have tb5 : T5 qb = (7, 0) := (P5.2.1 _ b4).trans tb4
  have hTH : TH L5 T5 E5 q3 := by
    intro q hq tq t _ _ w _ _
    have u : qb = q := S5.2.2.2.2 _ b5 _ hq (tb5.trans tq.symm) (by rw [tb5]; rfl)
    subst u
    have e20 : (fi E5 q3 20).toInt = 0 := by rw [fi_cell (P5.2.2.1 _ m4), z20]
    have e5 : (fi E5 q3 5).toInt = 0 := by rw [fi_cell (P5.2.2.1 _ m4), zf5]
    have e1 : (fi E5 qb 1).toInt = 0 := by rw [fi_cell (P5.2.2.1 _ b4), fi_cell (G4.2.2.1 _ b3 n3), fi_cell (P3.2.2.1 _ hqb), zqb]
    have e4 : (fi E5 qb 4).toInt = 0 := by rw [fi_cell (P5.2.2.1 _ b4), fi_cell (G4.2.2.1 _ b3 n3), fi_cell (P3.2.2.1 _ hqb), zq4]
    exact ⟨e1.trans e20.symm, e4.trans e5.symm, fun i hi => absurd hi (by omega)⟩
  have hTI : TI L5 T5 E5 q3 := ⟨hTH, fun y hy ty q _ _ => by
    have tx5 : T5 q1 = (0, 0) := (P5.2.1 _ x4).trans tx4
    have ux : q1 = y := S5.2.2.2.2 _ (P5.1 _ x4) _ hy (tx5.trans ty.symm) (by rw [tx5]; rfl)
    subst ux
    exact TW.not (by rw [fi_cell (P5.2.2.1 _ x4), fi_cell (G4.2.2.1 _ x3 (ne_ro tx3 P3.2.2.2.2.1 (by decide))), fi_cell (P3.2.2.1 _ x2), zx9]; decide) (by rw [fi_cell (P5.2.2.1 _ m4), zt3]; decide)⟩
  have hSl : SlotOK L5 T5 E5 := by
    intro ql hl tl qr hr' tr qm hm tm qd hd td s' hs' w hw
    have u : qz = qr := S5.2.2.2.2 _ hz5 _ hr' (tz5.trans tr.symm) (by rw [tz5]; rfl)
    subst u
    have e : ai E5 qz s' = 0 := by rw [ai_cell (P5.2.2.1 qz hz)]; exact ez s'
    rw [e] at hw
    have e0 : (0 : Int32).toInt = 0 := by decide +kernel
    rw [e0] at hw
    omega
  have J5 : LI cL L5 T5 E5 q1 q3 q5 := ⟨⟨P5.1 _ x4, (P5.2.1 _ x4).trans tx4⟩, ⟨m5, tm5⟩, ⟨P5.2.2.2.1, P5.2.2.2.2.1, _, g5⟩, hCh, hSl, Ab.ne A5 (by decide)⟩
  refine lv_astore_n (lv' := [(3, .ref q5), (2, .ref q3), (1, .ref q1), (0, .ref b)]) hx hb dL_law_19 rfl hl2 (by decide) rfl (fun l3 hl3 => ?_)
  obtain ⟨v0, ev0, tv0⟩ : ∃ v : Int32, Int32.ofInt (0) = v ∧ v.toInt = 0 := ⟨_, rfl, by decide +kernel⟩
  refine lv_iconst hx hb dL_law_20 ev0 ?_
  refine lv_istore (lv' := [(4, .int v0), (3, .ref q5), (2, .ref q3), (1, .ref q1), (0, .ref b)]) hx hb dL_law_21 hl3 (by decide) rfl (fun l4 hl4 => ?_)
  have hl5 : lv_has l4 7 [(4, .int v0), (0, .ref b), (1, .ref q1), (2, .ref q3), (3, .ref q5)] := ⟨hl4.1, hl4.2.1, fun q hq => hl4.2.2 q (by
    simp only [List.mem_cons, List.not_mem_nil, or_false] at hq ⊢
    rcases hq with h | h | h | h | h <;> simp [h])⟩
  exact lp_all X hr hlk 512 L5 T5 E5 H5 k4 _ _ v0 l4 S5 J5 hTI (by omega) (by omega) (by omega) (by omega) (by omega) hl5
