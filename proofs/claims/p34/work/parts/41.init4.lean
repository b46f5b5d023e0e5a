theorem dX4_init_0 : decode cX4_init 0 = .ok (.aload_n 0, 1) := by decide +kernel
theorem dX4_init_1 : decode cX4_init 1 = .ok (.invokespecial 3, 3) := by decide +kernel
theorem dX4_init_4 : decode cX4_init 4 = .ok (.aload_n 0, 1) := by decide +kernel
theorem dX4_init_5 : decode cX4_init 5 = .ok (.sipush 2600, 3) := by decide +kernel
theorem dX4_init_8 : decode cX4_init 8 = .ok (.putfield 9, 3) := by decide +kernel
theorem dX4_init_11 : decode cX4_init 11 = .ok (.aload_n 0, 1) := by decide +kernel
theorem dX4_init_12 : decode cX4_init 12 = .ok (.sipush 900, 3) := by decide +kernel
theorem dX4_init_15 : decode cX4_init 15 = .ok (.putfield 15, 3) := by decide +kernel
theorem dX4_init_18 : decode cX4_init 18 = .ok (.aload_n 0, 1) := by decide +kernel
theorem dX4_init_19 : decode cX4_init 19 = .ok (.sipush 400, 3) := by decide +kernel
theorem dX4_init_22 : decode cX4_init 22 = .ok (.putfield 18, 3) := by decide +kernel
theorem dX4_init_25 : decode cX4_init 25 = .ok (.aload_n 0, 1) := by decide +kernel
theorem dX4_init_26 : decode cX4_init 26 = .ok (.bipush 60, 2) := by decide +kernel
theorem dX4_init_28 : decode cX4_init 28 = .ok (.putfield 21, 3) := by decide +kernel
theorem dX4_init_31 : decode cX4_init 31 = .ok (.aload_n 0, 1) := by decide +kernel
theorem dX4_init_32 : decode cX4_init 32 = .ok (.iconst 1, 1) := by decide +kernel
theorem dX4_init_33 : decode cX4_init 33 = .ok (.putfield 24, 3) := by decide +kernel
theorem dX4_init_36 : decode cX4_init 36 = .ok (.aload_n 0, 1) := by decide +kernel
theorem dX4_init_37 : decode cX4_init 37 = .ok (.iconst 0, 1) := by decide +kernel
theorem dX4_init_38 : decode cX4_init 38 = .ok (.putfield 27, 3) := by decide +kernel
theorem dX4_init_41 : decode cX4_init 41 = .ok (.aload_n 0, 1) := by decide +kernel
theorem dX4_init_42 : decode cX4_init 42 = .ok (.iconst 0, 1) := by decide +kernel
theorem dX4_init_43 : decode cX4_init 43 = .ok (.putfield 30, 3) := by decide +kernel
theorem dX4_init_46 : decode cX4_init 46 = .ok (.aload_n 0, 1) := by decide +kernel
theorem dX4_init_47 : decode cX4_init 47 = .ok (.iconst 0, 1) := by decide +kernel
theorem dX4_init_48 : decode cX4_init 48 = .ok (.putfield 33, 3) := by decide +kernel
theorem dX4_init_51 : decode cX4_init 51 = .ok (.aload_n 0, 1) := by decide +kernel
theorem dX4_init_52 : decode cX4_init 52 = .ok (.iconst 3, 1) := by decide +kernel
theorem dX4_init_53 : decode cX4_init 53 = .ok (.newarray .int, 2) := by decide +kernel
theorem dX4_init_55 : decode cX4_init 55 = .ok (.putfield 36, 3) := by decide +kernel
theorem dX4_init_58 : decode cX4_init 58 = .ok (.aload_n 0, 1) := by decide +kernel
theorem dX4_init_59 : decode cX4_init 59 = .ok (.iconst 3, 1) := by decide +kernel
theorem dX4_init_60 : decode cX4_init 60 = .ok (.newarray .int, 2) := by decide +kernel
theorem dX4_init_62 : decode cX4_init 62 = .ok (.putfield 40, 3) := by decide +kernel
theorem dX4_init_65 : decode cX4_init 65 = .ok (.aload_n 0, 1) := by decide +kernel
theorem dX4_init_66 : decode cX4_init 66 = .ok (.iconst 2, 1) := by decide +kernel
theorem dX4_init_67 : decode cX4_init 67 = .ok (.newarray .int, 2) := by decide +kernel
theorem dX4_init_69 : decode cX4_init 69 = .ok (.putfield 43, 3) := by decide +kernel
theorem dX4_init_72 : decode cX4_init 72 = .ok (.aload_n 0, 1) := by decide +kernel
theorem dX4_init_73 : decode cX4_init 73 = .ok (.bipush 8, 2) := by decide +kernel
theorem dX4_init_75 : decode cX4_init 75 = .ok (.newarray .int, 2) := by decide +kernel
theorem dX4_init_77 : decode cX4_init 77 = .ok (.putfield 46, 3) := by decide +kernel
theorem dX4_init_80 : decode cX4_init 80 = .ok (.aload_n 0, 1) := by decide +kernel
theorem dX4_init_81 : decode cX4_init 81 = .ok (.bipush 8, 2) := by decide +kernel
theorem dX4_init_83 : decode cX4_init 83 = .ok (.newarray .int, 2) := by decide +kernel
theorem dX4_init_85 : decode cX4_init 85 = .ok (.putfield 49, 3) := by decide +kernel
theorem dX4_init_88 : decode cX4_init 88 = .ok (.aload_n 0, 1) := by decide +kernel
theorem dX4_init_89 : decode cX4_init 89 = .ok (.bipush 8, 2) := by decide +kernel
theorem dX4_init_91 : decode cX4_init 91 = .ok (.newarray .int, 2) := by decide +kernel
theorem dX4_init_93 : decode cX4_init 93 = .ok (.putfield 52, 3) := by decide +kernel
theorem dX4_init_96 : decode cX4_init 96 = .ok (.aload_n 0, 1) := by decide +kernel
theorem dX4_init_97 : decode cX4_init 97 = .ok (.iconst 5, 1) := by decide +kernel
theorem dX4_init_98 : decode cX4_init 98 = .ok (.newarray .int, 2) := by decide +kernel
theorem dX4_init_100 : decode cX4_init 100 = .ok (.dup, 1) := by decide +kernel
theorem dX4_init_101 : decode cX4_init 101 = .ok (.iconst 0, 1) := by decide +kernel
theorem dX4_init_102 : decode cX4_init 102 = .ok (.bipush 50, 2) := by decide +kernel
theorem dX4_init_104 : decode cX4_init 104 = .ok (.iastore, 1) := by decide +kernel
theorem dX4_init_105 : decode cX4_init 105 = .ok (.dup, 1) := by decide +kernel
theorem dX4_init_106 : decode cX4_init 106 = .ok (.iconst 1, 1) := by decide +kernel
theorem dX4_init_107 : decode cX4_init 107 = .ok (.bipush 80, 2) := by decide +kernel
theorem dX4_init_109 : decode cX4_init 109 = .ok (.iastore, 1) := by decide +kernel
theorem dX4_init_110 : decode cX4_init 110 = .ok (.dup, 1) := by decide +kernel
theorem dX4_init_111 : decode cX4_init 111 = .ok (.iconst 2, 1) := by decide +kernel
theorem dX4_init_112 : decode cX4_init 112 = .ok (.sipush 200, 3) := by decide +kernel
theorem dX4_init_115 : decode cX4_init 115 = .ok (.iastore, 1) := by decide +kernel
theorem dX4_init_116 : decode cX4_init 116 = .ok (.dup, 1) := by decide +kernel
theorem dX4_init_117 : decode cX4_init 117 = .ok (.iconst 3, 1) := by decide +kernel
theorem dX4_init_118 : decode cX4_init 118 = .ok (.bipush 120, 2) := by decide +kernel
theorem dX4_init_120 : decode cX4_init 120 = .ok (.iastore, 1) := by decide +kernel
theorem dX4_init_121 : decode cX4_init 121 = .ok (.dup, 1) := by decide +kernel
theorem dX4_init_122 : decode cX4_init 122 = .ok (.iconst 4, 1) := by decide +kernel
theorem dX4_init_123 : decode cX4_init 123 = .ok (.bipush 20, 2) := by decide +kernel
theorem dX4_init_125 : decode cX4_init 125 = .ok (.iastore, 1) := by decide +kernel
theorem dX4_init_126 : decode cX4_init 126 = .ok (.putfield 55, 3) := by decide +kernel
theorem dX4_init_129 : decode cX4_init 129 = .ok (.aload_n 0, 1) := by decide +kernel
theorem dX4_init_130 : decode cX4_init 130 = .ok (.bipush 8, 2) := by decide +kernel
theorem dX4_init_132 : decode cX4_init 132 = .ok (.anewarray 58, 3) := by decide +kernel
theorem dX4_init_135 : decode cX4_init 135 = .ok (.putfield 60, 3) := by decide +kernel
theorem dX4_init_138 : decode cX4_init 138 = .ok (.aload_n 0, 1) := by decide +kernel
theorem dX4_init_139 : decode cX4_init 139 = .ok (.getfield 36, 3) := by decide +kernel
theorem dX4_init_142 : decode cX4_init 142 = .ok (.iconst 0, 1) := by decide +kernel
theorem dX4_init_143 : decode cX4_init 143 = .ok (.bipush 12, 2) := by decide +kernel
theorem dX4_init_145 : decode cX4_init 145 = .ok (.iastore, 1) := by decide +kernel
theorem dX4_init_146 : decode cX4_init 146 = .ok (.aload_n 0, 1) := by decide +kernel
theorem dX4_init_147 : decode cX4_init 147 = .ok (.getfield 40, 3) := by decide +kernel
theorem dX4_init_150 : decode cX4_init 150 = .ok (.iconst 0, 1) := by decide +kernel
theorem dX4_init_151 : decode cX4_init 151 = .ok (.sipush 2640, 3) := by decide +kernel
theorem dX4_init_154 : decode cX4_init 154 = .ok (.iastore, 1) := by decide +kernel
theorem dX4_init_155 : decode cX4_init 155 = .ok (.return_, 1) := by decide +kernel
set_option maxHeartbeats 4000000 in
set_option maxRecDepth 100000 in
theorem k_X4_init_0 (l : Launch) (D : va_G) (cy : Nat → ClassId) {L : List Nat} {τ : Nat → Ro} {E : Ec} (hI : Inv TB cy L τ E) {a0 : Nat} (ha0 : a0 ∈ L) (ta0 : τ a0 = (201, 0)) (he0 : E a0 = .inr (3, [.int 0, .int 0, .int 0, .int 0, .int 0, .int 0, .int 0, .int 0, .null, .null, .null, .null, .null, .null, .null, .null])) (hab0 : Ab L τ [(1, 0), (20, 0), (21, 0), (22, 0), (23, 0), (24, 0), (25, 0), (26, 0), (27, 0)]) : CtG l yX4_init wsX4_init { frames := 1, cells := 8, slots := 45, locals := 20 } D cy L τ E [.ref a0] a0 [(27, 0), (26, 0), (25, 0), (24, 0), (23, 0), (22, 0), (21, 0), (20, 0)] 8 45 (fun L' τ' E' => τ' a0 = (1, 0)) := by
  intro sz
  refine staG (cc := cX4_init) (maxL := 1) hI (by decide) rfl (Nat.le_of_ble_eq_true rfl) (fun p e s m args below meth c ls hsz hnm Z hO S0 hl => ?_)
  have hx := Z.1.1
  have hb := Z.1.2.1
  have hts := Z.1.2.2.2.2
  have hnm : meth.name = "<init>" := hnm
  have G0 : Gr a0 [] L τ E L τ E := Gr.refl
  have hl : lv_has ls 1 [(0, .ref a0)] := hl
  refine lv_aload_n hx hb dX4_init_0 rfl (lv_at hl 0 rfl) ?_
  refine tr_obj Z.1 hl.1 (hts _ (List.mem_of_getElem? (i := 1) rfl)) (hts _ (List.mem_of_getElem? (i := 2) rfl)) (hts _ (List.mem_of_getElem? (i := 3) rfl)) dX4_init_1 (Nat.le_of_ble_eq_true rfl) (Nat.le_of_ble_eq_true rfl) ?_
  refine lv_aload_n hx hb dX4_init_4 rfl (lv_at hl 0 rfl) ?_
  obtain ⟨v1, ev1, tv1⟩ : ∃ v : Int32, (Int16.ofInt (2600)).toInt32 = v ∧ v.toInt = 2600 := ⟨_, rfl, by decide +kernel⟩
  refine lv_sipush hx hb dX4_init_5 ev1 ?_
  refine tr_putR Z.1 Z.2.2.2.1 S0 ha0 ta0 rfl rfl rfl he0 rfl (fun _ h => List.mem_cons_of_mem _ (List.mem_append_right _ h)) tyX4_ok nmX4 0 (by decide) (Nat.le_of_ble_eq_true rfl) (Or.inl rfl) (hts _ (List.mem_of_getElem? (i := 4) rfl)) dX4_init_8 rfl rfl (fun Eu2 Hu2 ku2 Su2 ou2 gu2 => ?_)
  have hu2 : Eu2 a0 = .inr (3, [.int v1, .int 0, .int 0, .int 0, .int 0, .int 0, .int 0, .int 0, .null, .null, .null, .null, .null, .null, .null, .null]) := gu2
  have Wu2 : Gr a0 [] L τ E L τ Eu2 := Gr.wr G0 ou2 (Or.inl rfl)
  refine lv_aload_n hx hb dX4_init_11 rfl (lv_at hl 0 rfl) ?_
  obtain ⟨v3, ev3, tv3⟩ : ∃ v : Int32, (Int16.ofInt (900)).toInt32 = v ∧ v.toInt = 900 := ⟨_, rfl, by decide +kernel⟩
  refine lv_sipush hx hb dX4_init_12 ev3 ?_
  refine tr_putR Z.1 Z.2.2.2.1 Su2 ha0 ta0 rfl rfl rfl hu2 rfl (fun _ h => List.mem_cons_of_mem _ (List.mem_append_right _ h)) tyX4_ok nmX4 1 (by decide) (Nat.le_of_ble_eq_true rfl) (Or.inl rfl) (hts _ (List.mem_of_getElem? (i := 5) rfl)) dX4_init_15 rfl rfl (fun Eu4 Hu4 ku4 Su4 ou4 gu4 => ?_)
  have hu4 : Eu4 a0 = .inr (3, [.int v1, .int v3, .int 0, .int 0, .int 0, .int 0, .int 0, .int 0, .null, .null, .null, .null, .null, .null, .null, .null]) := gu4
  have Wu4 : Gr a0 [] L τ E L τ Eu4 := Gr.wr Wu2 ou4 (Or.inl rfl)
  refine lv_aload_n hx hb dX4_init_18 rfl (lv_at hl 0 rfl) ?_
  obtain ⟨v5, ev5, tv5⟩ : ∃ v : Int32, (Int16.ofInt (400)).toInt32 = v ∧ v.toInt = 400 := ⟨_, rfl, by decide +kernel⟩
  refine lv_sipush hx hb dX4_init_19 ev5 ?_
  refine tr_putR Z.1 Z.2.2.2.1 Su4 ha0 ta0 rfl rfl rfl hu4 rfl (fun _ h => List.mem_cons_of_mem _ (List.mem_append_right _ h)) tyX4_ok nmX4 2 (by decide) (Nat.le_of_ble_eq_true rfl) (Or.inl rfl) (hts _ (List.mem_of_getElem? (i := 6) rfl)) dX4_init_22 rfl rfl (fun Eu6 Hu6 ku6 Su6 ou6 gu6 => ?_)
  have hu6 : Eu6 a0 = .inr (3, [.int v1, .int v3, .int v5, .int 0, .int 0, .int 0, .int 0, .int 0, .null, .null, .null, .null, .null, .null, .null, .null]) := gu6
  have Wu6 : Gr a0 [] L τ E L τ Eu6 := Gr.wr Wu4 ou6 (Or.inl rfl)
  refine lv_aload_n hx hb dX4_init_25 rfl (lv_at hl 0 rfl) ?_
  obtain ⟨v7, ev7, tv7⟩ : ∃ v : Int32, (Int8.ofInt (60)).toInt32 = v ∧ v.toInt = 60 := ⟨_, rfl, by decide +kernel⟩
  refine lv_bipush hx hb dX4_init_26 ev7 ?_
  refine tr_putR Z.1 Z.2.2.2.1 Su6 ha0 ta0 rfl rfl rfl hu6 rfl (fun _ h => List.mem_cons_of_mem _ (List.mem_append_right _ h)) tyX4_ok nmX4 3 (by decide) (Nat.le_of_ble_eq_true rfl) (Or.inl rfl) (hts _ (List.mem_of_getElem? (i := 7) rfl)) dX4_init_28 rfl rfl (fun Eu8 Hu8 ku8 Su8 ou8 gu8 => ?_)
  have hu8 : Eu8 a0 = .inr (3, [.int v1, .int v3, .int v5, .int v7, .int 0, .int 0, .int 0, .int 0, .null, .null, .null, .null, .null, .null, .null, .null]) := gu8
  have Wu8 : Gr a0 [] L τ E L τ Eu8 := Gr.wr Wu6 ou8 (Or.inl rfl)
  refine lv_aload_n hx hb dX4_init_31 rfl (lv_at hl 0 rfl) ?_
  obtain ⟨v9, ev9, tv9⟩ : ∃ v : Int32, Int32.ofInt (1) = v ∧ v.toInt = 1 := ⟨_, rfl, by decide +kernel⟩
  refine lv_iconst hx hb dX4_init_32 ev9 ?_
  refine tr_putR Z.1 Z.2.2.2.1 Su8 ha0 ta0 rfl rfl rfl hu8 rfl (fun _ h => List.mem_cons_of_mem _ (List.mem_append_right _ h)) tyX4_ok nmX4 4 (by decide) (Nat.le_of_ble_eq_true rfl) (Or.inl rfl) (hts _ (List.mem_of_getElem? (i := 8) rfl)) dX4_init_33 rfl rfl (fun Eu10 Hu10 ku10 Su10 ou10 gu10 => ?_)
  have hu10 : Eu10 a0 = .inr (3, [.int v1, .int v3, .int v5, .int v7, .int v9, .int 0, .int 0, .int 0, .null, .null, .null, .null, .null, .null, .null, .null]) := gu10
  have Wu10 : Gr a0 [] L τ E L τ Eu10 := Gr.wr Wu8 ou10 (Or.inl rfl)
  refine lv_aload_n hx hb dX4_init_36 rfl (lv_at hl 0 rfl) ?_
  obtain ⟨v11, ev11, tv11⟩ : ∃ v : Int32, Int32.ofInt (0) = v ∧ v.toInt = 0 := ⟨_, rfl, by decide +kernel⟩
  refine lv_iconst hx hb dX4_init_37 ev11 ?_
  refine tr_putR Z.1 Z.2.2.2.1 Su10 ha0 ta0 rfl rfl rfl hu10 rfl (fun _ h => List.mem_cons_of_mem _ (List.mem_append_right _ h)) tyX4_ok nmX4 5 (by decide) (Nat.le_of_ble_eq_true rfl) (Or.inl rfl) (hts _ (List.mem_of_getElem? (i := 9) rfl)) dX4_init_38 rfl rfl (fun Eu12 Hu12 ku12 Su12 ou12 gu12 => ?_)
  have hu12 : Eu12 a0 = .inr (3, [.int v1, .int v3, .int v5, .int v7, .int v9, .int v11, .int 0, .int 0, .null, .null, .null, .null, .null, .null, .null, .null]) := gu12
  have Wu12 : Gr a0 [] L τ E L τ Eu12 := Gr.wr Wu10 ou12 (Or.inl rfl)
  refine lv_aload_n hx hb dX4_init_41 rfl (lv_at hl 0 rfl) ?_
  obtain ⟨v13, ev13, tv13⟩ : ∃ v : Int32, Int32.ofInt (0) = v ∧ v.toInt = 0 := ⟨_, rfl, by decide +kernel⟩
  refine lv_iconst hx hb dX4_init_42 ev13 ?_
  refine tr_putR Z.1 Z.2.2.2.1 Su12 ha0 ta0 rfl rfl rfl hu12 rfl (fun _ h => List.mem_cons_of_mem _ (List.mem_append_right _ h)) tyX4_ok nmX4 6 (by decide) (Nat.le_of_ble_eq_true rfl) (Or.inl rfl) (hts _ (List.mem_of_getElem? (i := 10) rfl)) dX4_init_43 rfl rfl (fun Eu14 Hu14 ku14 Su14 ou14 gu14 => ?_)
  have hu14 : Eu14 a0 = .inr (3, [.int v1, .int v3, .int v5, .int v7, .int v9, .int v11, .int v13, .int 0, .null, .null, .null, .null, .null, .null, .null, .null]) := gu14
  have Wu14 : Gr a0 [] L τ E L τ Eu14 := Gr.wr Wu12 ou14 (Or.inl rfl)
  refine lv_aload_n hx hb dX4_init_46 rfl (lv_at hl 0 rfl) ?_
  obtain ⟨v15, ev15, tv15⟩ : ∃ v : Int32, Int32.ofInt (0) = v ∧ v.toInt = 0 := ⟨_, rfl, by decide +kernel⟩
  refine lv_iconst hx hb dX4_init_47 ev15 ?_
  refine tr_putR Z.1 Z.2.2.2.1 Su14 ha0 ta0 rfl rfl rfl hu14 rfl (fun _ h => List.mem_cons_of_mem _ (List.mem_append_right _ h)) tyX4_ok nmX4 7 (by decide) (Nat.le_of_ble_eq_true rfl) (Or.inl rfl) (hts _ (List.mem_of_getElem? (i := 11) rfl)) dX4_init_48 rfl rfl (fun Eu16 Hu16 ku16 Su16 ou16 gu16 => ?_)
  have hu16 : Eu16 a0 = .inr (3, [.int v1, .int v3, .int v5, .int v7, .int v9, .int v11, .int v13, .int v15, .null, .null, .null, .null, .null, .null, .null, .null]) := gu16
  have Wu16 : Gr a0 [] L τ E L τ Eu16 := Gr.wr Wu14 ou16 (Or.inl rfl)
  refine lv_aload_n hx hb dX4_init_51 rfl (lv_at hl 0 rfl) ?_
  obtain ⟨v17, ev17, tv17⟩ : ∃ v : Int32, Int32.ofInt (3) = v ∧ v.toInt = 3 := ⟨_, rfl, by decide +kernel⟩
  refine lv_iconst hx hb dX4_init_52 ev17 ?_
  refine tr_newi Z.1 Z.2.2.2.1 Z.2.2.2.2.2 Su16 (hts _ (List.mem_of_getElem? (i := 12) rfl)) rfl 0 rfl 3 (by omega) (vc_ty _ rfl _) (Nat.le_of_ble_eq_true rfl) (20, 0) rfl rfl rfl (fun i => ⟨(by decide : (-2147483648 : Int) ≤ 0), (by decide : (0 : Int) ≤ 2147483647)⟩) (fun _ => Ab.ne hab0 (by decide)) (Nat.le_of_ble_eq_true rfl) (Nat.le_of_ble_eq_true rfl) dX4_init_53 (fun Lq18 Tq18 Eq18 q18 Hq18 Sq18 Pq18 => ?_)
  have Wq18 : Gr a0 [(20, 0)] L τ E Lq18 Tq18 Eq18 := Gr.push Wu16 Pq18
  have f19 : q18 ∉ L := Gr.fresh Wu16 Pq18
  have Aq18 : Ab Lq18 Tq18 [(1, 0), (21, 0), (22, 0), (23, 0), (24, 0), (25, 0), (26, 0), (27, 0)] := Ab.push hab0 Pq18 (by decide) (by decide)
  have eq18 : Eq18 a0 = .inr (3, [.int v1, .int v3, .int v5, .int v7, .int v9, .int v11, .int v13, .int v15, .null, .null, .null, .null, .null, .null, .null, .null]) := (Pq18.2.2.1 a0 ha0).trans hu16
  have hm20 : a0 ∈ Lq18 := Pq18.1 _ ha0
  have tm20 : Tq18 a0 = (201, 0) := (Pq18.2.1 _ ha0).trans ta0
  refine tr_putR Z.1 Z.2.2.2.1 Sq18 hm20 tm20 rfl rfl rfl eq18 rfl (fun _ h => List.mem_cons_of_mem _ (List.mem_append_right _ h)) tyX4_ok nmX4 8 (by decide) (Nat.le_of_ble_eq_true rfl) (Or.inr ⟨hnm, rfl, rfl⟩) (hts _ (List.mem_of_getElem? (i := 13) rfl)) dX4_init_55 rfl rfl (fun Eu21 Hu21 ku21 Su21 ou21 gu21 => ?_)
  have hu21 : Eu21 a0 = .inr (3, [.int v1, .int v3, .int v5, .int v7, .int v9, .int v11, .int v13, .int v15, .ref q18, .null, .null, .null, .null, .null, .null, .null]) := gu21
  have Wu21 : Gr a0 [(20, 0)] L τ E Lq18 Tq18 Eu21 := Gr.wr Wq18 ou21 (Or.inl rfl)
  refine lv_aload_n hx hb dX4_init_58 rfl (lv_at hl 0 rfl) ?_
  obtain ⟨v22, ev22, tv22⟩ : ∃ v : Int32, Int32.ofInt (3) = v ∧ v.toInt = 3 := ⟨_, rfl, by decide +kernel⟩
  refine lv_iconst hx hb dX4_init_59 ev22 ?_
  refine tr_newi Z.1 Z.2.2.2.1 Z.2.2.2.2.2 Su21 (hts _ (List.mem_of_getElem? (i := 12) rfl)) rfl 0 rfl 3 (by omega) (vc_ty _ rfl _) (Nat.le_of_ble_eq_true rfl) (21, 0) rfl rfl rfl (fun i => ⟨(by decide : (-2147483648 : Int) ≤ 0), (by decide : (0 : Int) ≤ 2147483647)⟩) (fun _ => Ab.ne Aq18 (by decide)) (Nat.le_of_ble_eq_true rfl) (Nat.le_of_ble_eq_true rfl) dX4_init_60 (fun Lq23 Tq23 Eq23 q23 Hq23 Sq23 Pq23 => ?_)
  have Wq23 : Gr a0 [(21, 0), (20, 0)] L τ E Lq23 Tq23 Eq23 := Gr.push Wu21 Pq23
  have f24 : q23 ∉ L := Gr.fresh Wu21 Pq23
  have Aq23 : Ab Lq23 Tq23 [(1, 0), (22, 0), (23, 0), (24, 0), (25, 0), (26, 0), (27, 0)] := Ab.push Aq18 Pq23 (by decide) (by decide)
  have eq23 : Eq23 a0 = .inr (3, [.int v1, .int v3, .int v5, .int v7, .int v9, .int v11, .int v13, .int v15, .ref q18, .null, .null, .null, .null, .null, .null, .null]) := (Pq23.2.2.1 a0 hm20).trans hu21
  have hm25 : a0 ∈ Lq23 := Pq23.1 _ hm20
  have tm25 : Tq23 a0 = (201, 0) := (Pq23.2.1 _ hm20).trans tm20
  have hm26 : q18 ∈ Lq23 := Pq23.1 _ Pq18.2.2.2.1
  have tm26 : Tq23 q18 = (20, 0) := (Pq23.2.1 _ Pq18.2.2.2.1).trans Pq18.2.2.2.2.1
  refine tr_putR Z.1 Z.2.2.2.1 Sq23 hm25 tm25 rfl rfl rfl eq23 rfl (fun _ h => List.mem_cons_of_mem _ (List.mem_append_right _ h)) tyX4_ok nmX4 9 (by decide) (Nat.le_of_ble_eq_true rfl) (Or.inr ⟨hnm, rfl, rfl⟩) (hts _ (List.mem_of_getElem? (i := 14) rfl)) dX4_init_62 rfl rfl (fun Eu27 Hu27 ku27 Su27 ou27 gu27 => ?_)
  have hu27 : Eu27 a0 = .inr (3, [.int v1, .int v3, .int v5, .int v7, .int v9, .int v11, .int v13, .int v15, .ref q18, .ref q23, .null, .null, .null, .null, .null, .null]) := gu27
  have Wu27 : Gr a0 [(21, 0), (20, 0)] L τ E Lq23 Tq23 Eu27 := Gr.wr Wq23 ou27 (Or.inl rfl)
  refine lv_aload_n hx hb dX4_init_65 rfl (lv_at hl 0 rfl) ?_
  obtain ⟨v28, ev28, tv28⟩ : ∃ v : Int32, Int32.ofInt (2) = v ∧ v.toInt = 2 := ⟨_, rfl, by decide +kernel⟩
  refine lv_iconst hx hb dX4_init_66 ev28 ?_
  refine tr_newi Z.1 Z.2.2.2.1 Z.2.2.2.2.2 Su27 (hts _ (List.mem_of_getElem? (i := 12) rfl)) rfl 0 rfl 2 (by omega) (vc_ty _ rfl _) (Nat.le_of_ble_eq_true rfl) (22, 0) rfl rfl rfl (fun i => ⟨(by decide : (-2147483648 : Int) ≤ 0), (by decide : (0 : Int) ≤ 2147483647)⟩) (fun _ => Ab.ne Aq23 (by decide)) (Nat.le_of_ble_eq_true rfl) (Nat.le_of_ble_eq_true rfl) dX4_init_67 (fun Lq29 Tq29 Eq29 q29 Hq29 Sq29 Pq29 => ?_)
  have Wq29 : Gr a0 [(22, 0), (21, 0), (20, 0)] L τ E Lq29 Tq29 Eq29 := Gr.push Wu27 Pq29
  have f30 : q29 ∉ L := Gr.fresh Wu27 Pq29
  have Aq29 : Ab Lq29 Tq29 [(1, 0), (23, 0), (24, 0), (25, 0), (26, 0), (27, 0)] := Ab.push Aq23 Pq29 (by decide) (by decide)
  have eq29 : Eq29 a0 = .inr (3, [.int v1, .int v3, .int v5, .int v7, .int v9, .int v11, .int v13, .int v15, .ref q18, .ref q23, .null, .null, .null, .null, .null, .null]) := (Pq29.2.2.1 a0 hm25).trans hu27
  have hm31 : a0 ∈ Lq29 := Pq29.1 _ hm25
  have tm31 : Tq29 a0 = (201, 0) := (Pq29.2.1 _ hm25).trans tm25
  have hm32 : q18 ∈ Lq29 := Pq29.1 _ hm26
  have tm32 : Tq29 q18 = (20, 0) := (Pq29.2.1 _ hm26).trans tm26
  have hm33 : q23 ∈ Lq29 := Pq29.1 _ Pq23.2.2.2.1
  have tm33 : Tq29 q23 = (21, 0) := (Pq29.2.1 _ Pq23.2.2.2.1).trans Pq23.2.2.2.2.1
  refine tr_putR Z.1 Z.2.2.2.1 Sq29 hm31 tm31 rfl rfl rfl eq29 rfl (fun _ h => List.mem_cons_of_mem _ (List.mem_append_right _ h)) tyX4_ok nmX4 10 (by decide) (Nat.le_of_ble_eq_true rfl) (Or.inr ⟨hnm, rfl, rfl⟩) (hts _ (List.mem_of_getElem? (i := 15) rfl)) dX4_init_69 rfl rfl (fun Eu34 Hu34 ku34 Su34 ou34 gu34 => ?_)
  have hu34 : Eu34 a0 = .inr (3, [.int v1, .int v3, .int v5, .int v7, .int v9, .int v11, .int v13, .int v15, .ref q18, .ref q23, .ref q29, .null, .null, .null, .null, .null]) := gu34
  have Wu34 : Gr a0 [(22, 0), (21, 0), (20, 0)] L τ E Lq29 Tq29 Eu34 := Gr.wr Wq29 ou34 (Or.inl rfl)
  refine lv_aload_n hx hb dX4_init_72 rfl (lv_at hl 0 rfl) ?_
  obtain ⟨v35, ev35, tv35⟩ : ∃ v : Int32, (Int8.ofInt (8)).toInt32 = v ∧ v.toInt = 8 := ⟨_, rfl, by decide +kernel⟩
  refine lv_bipush hx hb dX4_init_73 ev35 ?_
  refine tr_newi Z.1 Z.2.2.2.1 Z.2.2.2.2.2 Su34 (hts _ (List.mem_of_getElem? (i := 12) rfl)) rfl 0 rfl 8 (by omega) (vc_ty _ rfl _) (Nat.le_of_ble_eq_true rfl) (23, 0) rfl rfl rfl (fun i => ⟨(by decide : (-2147483648 : Int) ≤ 0), (by decide : (0 : Int) ≤ 2147483647)⟩) (fun _ => Ab.ne Aq29 (by decide)) (Nat.le_of_ble_eq_true rfl) (Nat.le_of_ble_eq_true rfl) dX4_init_75 (fun Lq36 Tq36 Eq36 q36 Hq36 Sq36 Pq36 => ?_)
  have Wq36 : Gr a0 [(23, 0), (22, 0), (21, 0), (20, 0)] L τ E Lq36 Tq36 Eq36 := Gr.push Wu34 Pq36
  have f37 : q36 ∉ L := Gr.fresh Wu34 Pq36
  have Aq36 : Ab Lq36 Tq36 [(1, 0), (24, 0), (25, 0), (26, 0), (27, 0)] := Ab.push Aq29 Pq36 (by decide) (by decide)
  have eq36 : Eq36 a0 = .inr (3, [.int v1, .int v3, .int v5, .int v7, .int v9, .int v11, .int v13, .int v15, .ref q18, .ref q23, .ref q29, .null, .null, .null, .null, .null]) := (Pq36.2.2.1 a0 hm31).trans hu34
  have hm38 : a0 ∈ Lq36 := Pq36.1 _ hm31
  have tm38 : Tq36 a0 = (201, 0) := (Pq36.2.1 _ hm31).trans tm31
  have hm39 : q18 ∈ Lq36 := Pq36.1 _ hm32
  have tm39 : Tq36 q18 = (20, 0) := (Pq36.2.1 _ hm32).trans tm32
  have hm40 : q23 ∈ Lq36 := Pq36.1 _ hm33
  have tm40 : Tq36 q23 = (21, 0) := (Pq36.2.1 _ hm33).trans tm33
  have hm41 : q29 ∈ Lq36 := Pq36.1 _ Pq29.2.2.2.1
  have tm41 : Tq36 q29 = (22, 0) := (Pq36.2.1 _ Pq29.2.2.2.1).trans Pq29.2.2.2.2.1
  refine tr_putR Z.1 Z.2.2.2.1 Sq36 hm38 tm38 rfl rfl rfl eq36 rfl (fun _ h => List.mem_cons_of_mem _ (List.mem_append_right _ h)) tyX4_ok nmX4 11 (by decide) (Nat.le_of_ble_eq_true rfl) (Or.inr ⟨hnm, rfl, rfl⟩) (hts _ (List.mem_of_getElem? (i := 16) rfl)) dX4_init_77 rfl rfl (fun Eu42 Hu42 ku42 Su42 ou42 gu42 => ?_)
  have hu42 : Eu42 a0 = .inr (3, [.int v1, .int v3, .int v5, .int v7, .int v9, .int v11, .int v13, .int v15, .ref q18, .ref q23, .ref q29, .ref q36, .null, .null, .null, .null]) := gu42
  have Wu42 : Gr a0 [(23, 0), (22, 0), (21, 0), (20, 0)] L τ E Lq36 Tq36 Eu42 := Gr.wr Wq36 ou42 (Or.inl rfl)
  refine lv_aload_n hx hb dX4_init_80 rfl (lv_at hl 0 rfl) ?_
  obtain ⟨v43, ev43, tv43⟩ : ∃ v : Int32, (Int8.ofInt (8)).toInt32 = v ∧ v.toInt = 8 := ⟨_, rfl, by decide +kernel⟩
  refine lv_bipush hx hb dX4_init_81 ev43 ?_
  refine tr_newi Z.1 Z.2.2.2.1 Z.2.2.2.2.2 Su42 (hts _ (List.mem_of_getElem? (i := 12) rfl)) rfl 0 rfl 8 (by omega) (vc_ty _ rfl _) (Nat.le_of_ble_eq_true rfl) (24, 0) rfl rfl rfl (fun i => ⟨(by decide : (-2147483648 : Int) ≤ 0), (by decide : (0 : Int) ≤ 2147483647)⟩) (fun _ => Ab.ne Aq36 (by decide)) (Nat.le_of_ble_eq_true rfl) (Nat.le_of_ble_eq_true rfl) dX4_init_83 (fun Lq44 Tq44 Eq44 q44 Hq44 Sq44 Pq44 => ?_)
  have Wq44 : Gr a0 [(24, 0), (23, 0), (22, 0), (21, 0), (20, 0)] L τ E Lq44 Tq44 Eq44 := Gr.push Wu42 Pq44
  have f45 : q44 ∉ L := Gr.fresh Wu42 Pq44
  have Aq44 : Ab Lq44 Tq44 [(1, 0), (25, 0), (26, 0), (27, 0)] := Ab.push Aq36 Pq44 (by decide) (by decide)
  have eq44 : Eq44 a0 = .inr (3, [.int v1, .int v3, .int v5, .int v7, .int v9, .int v11, .int v13, .int v15, .ref q18, .ref q23, .ref q29, .ref q36, .null, .null, .null, .null]) := (Pq44.2.2.1 a0 hm38).trans hu42
  have hm46 : a0 ∈ Lq44 := Pq44.1 _ hm38
  have tm46 : Tq44 a0 = (201, 0) := (Pq44.2.1 _ hm38).trans tm38
  have hm47 : q18 ∈ Lq44 := Pq44.1 _ hm39
  have tm47 : Tq44 q18 = (20, 0) := (Pq44.2.1 _ hm39).trans tm39
  have hm48 : q23 ∈ Lq44 := Pq44.1 _ hm40
  have tm48 : Tq44 q23 = (21, 0) := (Pq44.2.1 _ hm40).trans tm40
  have hm49 : q29 ∈ Lq44 := Pq44.1 _ hm41
  have tm49 : Tq44 q29 = (22, 0) := (Pq44.2.1 _ hm41).trans tm41
  have hm50 : q36 ∈ Lq44 := Pq44.1 _ Pq36.2.2.2.1
  have tm50 : Tq44 q36 = (23, 0) := (Pq44.2.1 _ Pq36.2.2.2.1).trans Pq36.2.2.2.2.1
  refine tr_putR Z.1 Z.2.2.2.1 Sq44 hm46 tm46 rfl rfl rfl eq44 rfl (fun _ h => List.mem_cons_of_mem _ (List.mem_append_right _ h)) tyX4_ok nmX4 12 (by decide) (Nat.le_of_ble_eq_true rfl) (Or.inr ⟨hnm, rfl, rfl⟩) (hts _ (List.mem_of_getElem? (i := 17) rfl)) dX4_init_85 rfl rfl (fun Eu51 Hu51 ku51 Su51 ou51 gu51 => ?_)
  have hu51 : Eu51 a0 = .inr (3, [.int v1, .int v3, .int v5, .int v7, .int v9, .int v11, .int v13, .int v15, .ref q18, .ref q23, .ref q29, .ref q36, .ref q44, .null, .null, .null]) := gu51
  have Wu51 : Gr a0 [(24, 0), (23, 0), (22, 0), (21, 0), (20, 0)] L τ E Lq44 Tq44 Eu51 := Gr.wr Wq44 ou51 (Or.inl rfl)
  refine lv_aload_n hx hb dX4_init_88 rfl (lv_at hl 0 rfl) ?_
  obtain ⟨v52, ev52, tv52⟩ : ∃ v : Int32, (Int8.ofInt (8)).toInt32 = v ∧ v.toInt = 8 := ⟨_, rfl, by decide +kernel⟩
  refine lv_bipush hx hb dX4_init_89 ev52 ?_
  refine tr_newi Z.1 Z.2.2.2.1 Z.2.2.2.2.2 Su51 (hts _ (List.mem_of_getElem? (i := 12) rfl)) rfl 0 rfl 8 (by omega) (vc_ty _ rfl _) (Nat.le_of_ble_eq_true rfl) (25, 0) rfl rfl rfl (fun i => ⟨(by decide : (-2147483648 : Int) ≤ 0), (by decide : (0 : Int) ≤ 2147483647)⟩) (fun _ => Ab.ne Aq44 (by decide)) (Nat.le_of_ble_eq_true rfl) (Nat.le_of_ble_eq_true rfl) dX4_init_91 (fun Lq53 Tq53 Eq53 q53 Hq53 Sq53 Pq53 => ?_)
  have Wq53 : Gr a0 [(25, 0), (24, 0), (23, 0), (22, 0), (21, 0), (20, 0)] L τ E Lq53 Tq53 Eq53 := Gr.push Wu51 Pq53
  have f54 : q53 ∉ L := Gr.fresh Wu51 Pq53
  have Aq53 : Ab Lq53 Tq53 [(1, 0), (26, 0), (27, 0)] := Ab.push Aq44 Pq53 (by decide) (by decide)
  have eq53 : Eq53 a0 = .inr (3, [.int v1, .int v3, .int v5, .int v7, .int v9, .int v11, .int v13, .int v15, .ref q18, .ref q23, .ref q29, .ref q36, .ref q44, .null, .null, .null]) := (Pq53.2.2.1 a0 hm46).trans hu51
  have hm55 : a0 ∈ Lq53 := Pq53.1 _ hm46
  have tm55 : Tq53 a0 = (201, 0) := (Pq53.2.1 _ hm46).trans tm46
  have hm56 : q18 ∈ Lq53 := Pq53.1 _ hm47
  have tm56 : Tq53 q18 = (20, 0) := (Pq53.2.1 _ hm47).trans tm47
  have hm57 : q23 ∈ Lq53 := Pq53.1 _ hm48
  have tm57 : Tq53 q23 = (21, 0) := (Pq53.2.1 _ hm48).trans tm48
  have hm58 : q29 ∈ Lq53 := Pq53.1 _ hm49
  have tm58 : Tq53 q29 = (22, 0) := (Pq53.2.1 _ hm49).trans tm49
  have hm59 : q36 ∈ Lq53 := Pq53.1 _ hm50
  have tm59 : Tq53 q36 = (23, 0) := (Pq53.2.1 _ hm50).trans tm50
  have hm60 : q44 ∈ Lq53 := Pq53.1 _ Pq44.2.2.2.1
  have tm60 : Tq53 q44 = (24, 0) := (Pq53.2.1 _ Pq44.2.2.2.1).trans Pq44.2.2.2.2.1
  refine tr_putR Z.1 Z.2.2.2.1 Sq53 hm55 tm55 rfl rfl rfl eq53 rfl (fun _ h => List.mem_cons_of_mem _ (List.mem_append_right _ h)) tyX4_ok nmX4 13 (by decide) (Nat.le_of_ble_eq_true rfl) (Or.inr ⟨hnm, rfl, rfl⟩) (hts _ (List.mem_of_getElem? (i := 18) rfl)) dX4_init_93 rfl rfl (fun Eu61 Hu61 ku61 Su61 ou61 gu61 => ?_)
  have hu61 : Eu61 a0 = .inr (3, [.int v1, .int v3, .int v5, .int v7, .int v9, .int v11, .int v13, .int v15, .ref q18, .ref q23, .ref q29, .ref q36, .ref q44, .ref q53, .null, .null]) := gu61
  have Wu61 : Gr a0 [(25, 0), (24, 0), (23, 0), (22, 0), (21, 0), (20, 0)] L τ E Lq53 Tq53 Eu61 := Gr.wr Wq53 ou61 (Or.inl rfl)
  refine lv_aload_n hx hb dX4_init_96 rfl (lv_at hl 0 rfl) ?_
  obtain ⟨v62, ev62, tv62⟩ : ∃ v : Int32, Int32.ofInt (5) = v ∧ v.toInt = 5 := ⟨_, rfl, by decide +kernel⟩
  refine lv_iconst hx hb dX4_init_97 ev62 ?_
  refine tr_newi Z.1 Z.2.2.2.1 Z.2.2.2.2.2 Su61 (hts _ (List.mem_of_getElem? (i := 12) rfl)) rfl 0 rfl 5 (by omega) (vc_ty _ rfl _) (Nat.le_of_ble_eq_true rfl) (26, 0) rfl rfl rfl (fun i => ⟨(by decide : (-2147483648 : Int) ≤ 0), (by decide : (0 : Int) ≤ 2147483647)⟩) (fun _ => Ab.ne Aq53 (by decide)) (Nat.le_of_ble_eq_true rfl) (Nat.le_of_ble_eq_true rfl) dX4_init_98 (fun Lq63 Tq63 Eq63 q63 Hq63 Sq63 Pq63 => ?_)
  have Wq63 : Gr a0 [(26, 0), (25, 0), (24, 0), (23, 0), (22, 0), (21, 0), (20, 0)] L τ E Lq63 Tq63 Eq63 := Gr.push Wu61 Pq63
  have f64 : q63 ∉ L := Gr.fresh Wu61 Pq63
  have Aq63 : Ab Lq63 Tq63 [(1, 0), (27, 0)] := Ab.push Aq53 Pq63 (by decide) (by decide)
  have eq63 : Eq63 a0 = .inr (3, [.int v1, .int v3, .int v5, .int v7, .int v9, .int v11, .int v13, .int v15, .ref q18, .ref q23, .ref q29, .ref q36, .ref q44, .ref q53, .null, .null]) := (Pq63.2.2.1 a0 hm55).trans hu61
  have hm65 : a0 ∈ Lq63 := Pq63.1 _ hm55
  have tm65 : Tq63 a0 = (201, 0) := (Pq63.2.1 _ hm55).trans tm55
  have hm66 : q18 ∈ Lq63 := Pq63.1 _ hm56
  have tm66 : Tq63 q18 = (20, 0) := (Pq63.2.1 _ hm56).trans tm56
  have hm67 : q23 ∈ Lq63 := Pq63.1 _ hm57
  have tm67 : Tq63 q23 = (21, 0) := (Pq63.2.1 _ hm57).trans tm57
  have hm68 : q29 ∈ Lq63 := Pq63.1 _ hm58
  have tm68 : Tq63 q29 = (22, 0) := (Pq63.2.1 _ hm58).trans tm58
  have hm69 : q36 ∈ Lq63 := Pq63.1 _ hm59
  have tm69 : Tq63 q36 = (23, 0) := (Pq63.2.1 _ hm59).trans tm59
  have hm70 : q44 ∈ Lq63 := Pq63.1 _ hm60
  have tm70 : Tq63 q44 = (24, 0) := (Pq63.2.1 _ hm60).trans tm60
  have hm71 : q53 ∈ Lq63 := Pq63.1 _ Pq53.2.2.2.1
  have tm71 : Tq63 q53 = (25, 0) := (Pq63.2.1 _ Pq53.2.2.2.1).trans Pq53.2.2.2.2.1
  refine lv_dup hx hb dX4_init_100 rfl ?_
  obtain ⟨v72, ev72, tv72⟩ : ∃ v : Int32, Int32.ofInt (0) = v ∧ v.toInt = 0 := ⟨_, rfl, by decide +kernel⟩
  refine lv_iconst hx hb dX4_init_101 ev72 ?_
  obtain ⟨v73, ev73, tv73⟩ : ∃ v : Int32, (Int8.ofInt (50)).toInt32 = v ∧ v.toInt = 50 := ⟨_, rfl, by decide +kernel⟩
  refine lv_bipush hx hb dX4_init_102 ev73 ?_
  refine tr_iast Z.1 Z.2.2.2.1 Sq63.1 Sq63.2 Pq63.2.2.2.1 Pq63.2.2.2.2.1 rfl (by omega) (by omega) (by omega) (by omega) dX4_init_104 (fun Eu74 Hu74 ku74 wu74 iu74 Pu74 => ?_)
  have Su74 : NowG D cy (va_A (va_pl L _) sz) s Lq63 Tq63 Eu74 Hu74 ku74 := ⟨wu74, iu74⟩
  have hu74 : Eu74 a0 = .inr (3, [.int v1, .int v3, .int v5, .int v7, .int v9, .int v11, .int v13, .int v15, .ref q18, .ref q23, .ref q29, .ref q36, .ref q44, .ref q53, .null, .null]) := (Pu74.1 a0 (ne_ro tm65 Pq63.2.2.2.2.1 (by decide))).trans eq63
  have Wu74 : Gr a0 [(26, 0), (25, 0), (24, 0), (23, 0), (22, 0), (21, 0), (20, 0)] L τ E Lq63 Tq63 Eu74 := Gr.wr Wq63 Pu74.1 (Or.inr f64)
  refine lv_dup hx hb dX4_init_105 rfl ?_
  obtain ⟨v75, ev75, tv75⟩ : ∃ v : Int32, Int32.ofInt (1) = v ∧ v.toInt = 1 := ⟨_, rfl, by decide +kernel⟩
  refine lv_iconst hx hb dX4_init_106 ev75 ?_
  obtain ⟨v76, ev76, tv76⟩ : ∃ v : Int32, (Int8.ofInt (80)).toInt32 = v ∧ v.toInt = 80 := ⟨_, rfl, by decide +kernel⟩
  refine lv_bipush hx hb dX4_init_107 ev76 ?_
  refine tr_iast Z.1 Z.2.2.2.1 Su74.1 Su74.2 Pq63.2.2.2.1 Pq63.2.2.2.2.1 rfl (by omega) (by omega) (by omega) (by omega) dX4_init_109 (fun Eu77 Hu77 ku77 wu77 iu77 Pu77 => ?_)
  have Su77 : NowG D cy (va_A (va_pl L _) sz) s Lq63 Tq63 Eu77 Hu77 ku77 := ⟨wu77, iu77⟩
  have hu77 : Eu77 a0 = .inr (3, [.int v1, .int v3, .int v5, .int v7, .int v9, .int v11, .int v13, .int v15, .ref q18, .ref q23, .ref q29, .ref q36, .ref q44, .ref q53, .null, .null]) := (Pu77.1 a0 (ne_ro tm65 Pq63.2.2.2.2.1 (by decide))).trans hu74
  have Wu77 : Gr a0 [(26, 0), (25, 0), (24, 0), (23, 0), (22, 0), (21, 0), (20, 0)] L τ E Lq63 Tq63 Eu77 := Gr.wr Wu74 Pu77.1 (Or.inr f64)
  refine lv_dup hx hb dX4_init_110 rfl ?_
  obtain ⟨v78, ev78, tv78⟩ : ∃ v : Int32, Int32.ofInt (2) = v ∧ v.toInt = 2 := ⟨_, rfl, by decide +kernel⟩
  refine lv_iconst hx hb dX4_init_111 ev78 ?_
  obtain ⟨v79, ev79, tv79⟩ : ∃ v : Int32, (Int16.ofInt (200)).toInt32 = v ∧ v.toInt = 200 := ⟨_, rfl, by decide +kernel⟩
  refine lv_sipush hx hb dX4_init_112 ev79 ?_
  refine tr_iast Z.1 Z.2.2.2.1 Su77.1 Su77.2 Pq63.2.2.2.1 Pq63.2.2.2.2.1 rfl (by omega) (by omega) (by omega) (by omega) dX4_init_115 (fun Eu80 Hu80 ku80 wu80 iu80 Pu80 => ?_)
  have Su80 : NowG D cy (va_A (va_pl L _) sz) s Lq63 Tq63 Eu80 Hu80 ku80 := ⟨wu80, iu80⟩
  have hu80 : Eu80 a0 = .inr (3, [.int v1, .int v3, .int v5, .int v7, .int v9, .int v11, .int v13, .int v15, .ref q18, .ref q23, .ref q29, .ref q36, .ref q44, .ref q53, .null, .null]) := (Pu80.1 a0 (ne_ro tm65 Pq63.2.2.2.2.1 (by decide))).trans hu77
  have Wu80 : Gr a0 [(26, 0), (25, 0), (24, 0), (23, 0), (22, 0), (21, 0), (20, 0)] L τ E Lq63 Tq63 Eu80 := Gr.wr Wu77 Pu80.1 (Or.inr f64)
  refine lv_dup hx hb dX4_init_116 rfl ?_
  obtain ⟨v81, ev81, tv81⟩ : ∃ v : Int32, Int32.ofInt (3) = v ∧ v.toInt = 3 := ⟨_, rfl, by decide +kernel⟩
  refine lv_iconst hx hb dX4_init_117 ev81 ?_
  obtain ⟨v82, ev82, tv82⟩ : ∃ v : Int32, (Int8.ofInt (120)).toInt32 = v ∧ v.toInt = 120 := ⟨_, rfl, by decide +kernel⟩
  refine lv_bipush hx hb dX4_init_118 ev82 ?_
  refine tr_iast Z.1 Z.2.2.2.1 Su80.1 Su80.2 Pq63.2.2.2.1 Pq63.2.2.2.2.1 rfl (by omega) (by omega) (by omega) (by omega) dX4_init_120 (fun Eu83 Hu83 ku83 wu83 iu83 Pu83 => ?_)
  have Su83 : NowG D cy (va_A (va_pl L _) sz) s Lq63 Tq63 Eu83 Hu83 ku83 := ⟨wu83, iu83⟩
  have hu83 : Eu83 a0 = .inr (3, [.int v1, .int v3, .int v5, .int v7, .int v9, .int v11, .int v13, .int v15, .ref q18, .ref q23, .ref q29, .ref q36, .ref q44, .ref q53, .null, .null]) := (Pu83.1 a0 (ne_ro tm65 Pq63.2.2.2.2.1 (by decide))).trans hu80
  have Wu83 : Gr a0 [(26, 0), (25, 0), (24, 0), (23, 0), (22, 0), (21, 0), (20, 0)] L τ E Lq63 Tq63 Eu83 := Gr.wr Wu80 Pu83.1 (Or.inr f64)
  refine lv_dup hx hb dX4_init_121 rfl ?_
  obtain ⟨v84, ev84, tv84⟩ : ∃ v : Int32, Int32.ofInt (4) = v ∧ v.toInt = 4 := ⟨_, rfl, by decide +kernel⟩
  refine lv_iconst hx hb dX4_init_122 ev84 ?_
  obtain ⟨v85, ev85, tv85⟩ : ∃ v : Int32, (Int8.ofInt (20)).toInt32 = v ∧ v.toInt = 20 := ⟨_, rfl, by decide +kernel⟩
  refine lv_bipush hx hb dX4_init_123 ev85 ?_
  refine tr_iast Z.1 Z.2.2.2.1 Su83.1 Su83.2 Pq63.2.2.2.1 Pq63.2.2.2.2.1 rfl (by omega) (by omega) (by omega) (by omega) dX4_init_125 (fun Eu86 Hu86 ku86 wu86 iu86 Pu86 => ?_)
  have Su86 : NowG D cy (va_A (va_pl L _) sz) s Lq63 Tq63 Eu86 Hu86 ku86 := ⟨wu86, iu86⟩
  have hu86 : Eu86 a0 = .inr (3, [.int v1, .int v3, .int v5, .int v7, .int v9, .int v11, .int v13, .int v15, .ref q18, .ref q23, .ref q29, .ref q36, .ref q44, .ref q53, .null, .null]) := (Pu86.1 a0 (ne_ro tm65 Pq63.2.2.2.2.1 (by decide))).trans hu83
  have Wu86 : Gr a0 [(26, 0), (25, 0), (24, 0), (23, 0), (22, 0), (21, 0), (20, 0)] L τ E Lq63 Tq63 Eu86 := Gr.wr Wu83 Pu86.1 (Or.inr f64)
  refine tr_putR Z.1 Z.2.2.2.1 Su86 hm65 tm65 rfl rfl rfl hu86 rfl (fun _ h => List.mem_cons_of_mem _ (List.mem_append_right _ h)) tyX4_ok nmX4 14 (by decide) (Nat.le_of_ble_eq_true rfl) (Or.inr ⟨hnm, rfl, rfl⟩) (hts _ (List.mem_of_getElem? (i := 19) rfl)) dX4_init_126 rfl rfl (fun Eu87 Hu87 ku87 Su87 ou87 gu87 => ?_)
  have hu87 : Eu87 a0 = .inr (3, [.int v1, .int v3, .int v5, .int v7, .int v9, .int v11, .int v13, .int v15, .ref q18, .ref q23, .ref q29, .ref q36, .ref q44, .ref q53, .ref q63, .null]) := gu87
  have Wu87 : Gr a0 [(26, 0), (25, 0), (24, 0), (23, 0), (22, 0), (21, 0), (20, 0)] L τ E Lq63 Tq63 Eu87 := Gr.wr Wu86 ou87 (Or.inl rfl)
  refine lv_aload_n hx hb dX4_init_129 rfl (lv_at hl 0 rfl) ?_
  obtain ⟨v88, ev88, tv88⟩ : ∃ v : Int32, (Int8.ofInt (8)).toInt32 = v ∧ v.toInt = 8 := ⟨_, rfl, by decide +kernel⟩
  refine lv_bipush hx hb dX4_init_130 ev88 ?_
  refine tr_newq Z.1 Z.2.2.2.1 Z.2.2.2.2.2 Su87 (hts _ (List.mem_of_getElem? (i := 20) rfl)) hO.1 3 rfl 8 (by omega) (Nat.le_of_ble_eq_true rfl) (27, 0) rfl rfl (fun j n t h => by have h : some ((3 : Nat), (8 : Nat), (fun (_ : Nat) => ((3, 10, 0) : Ft))) = some (j, n, t) := h; cases h; exact ⟨rfl, rfl, fun _ => rfl⟩) (fun _ => Ab.ne Aq63 (by decide)) (Nat.le_of_ble_eq_true rfl) (Nat.le_of_ble_eq_true rfl) dX4_init_132 (fun Lq89 Tq89 Eq89 q89 Hq89 Sq89 Pq89 zq89 => ?_)
  have Wq89 : Gr a0 [(27, 0), (26, 0), (25, 0), (24, 0), (23, 0), (22, 0), (21, 0), (20, 0)] L τ E Lq89 Tq89 Eq89 := Gr.push Wu87 Pq89
  have f90 : q89 ∉ L := Gr.fresh Wu87 Pq89
  have Aq89 : Ab Lq89 Tq89 [(1, 0)] := Ab.push Aq63 Pq89 (by decide) (by decide)
  have eq89 : Eq89 a0 = .inr (3, [.int v1, .int v3, .int v5, .int v7, .int v9, .int v11, .int v13, .int v15, .ref q18, .ref q23, .ref q29, .ref q36, .ref q44, .ref q53, .ref q63, .null]) := (Pq89.2.2.1 a0 hm65).trans hu87
  have hm91 : a0 ∈ Lq89 := Pq89.1 _ hm65
  have tm91 : Tq89 a0 = (201, 0) := (Pq89.2.1 _ hm65).trans tm65
  have hm92 : q18 ∈ Lq89 := Pq89.1 _ hm66
  have tm92 : Tq89 q18 = (20, 0) := (Pq89.2.1 _ hm66).trans tm66
  have hm93 : q23 ∈ Lq89 := Pq89.1 _ hm67
  have tm93 : Tq89 q23 = (21, 0) := (Pq89.2.1 _ hm67).trans tm67
  have hm94 : q29 ∈ Lq89 := Pq89.1 _ hm68
  have tm94 : Tq89 q29 = (22, 0) := (Pq89.2.1 _ hm68).trans tm68
  have hm95 : q36 ∈ Lq89 := Pq89.1 _ hm69
  have tm95 : Tq89 q36 = (23, 0) := (Pq89.2.1 _ hm69).trans tm69
  have hm96 : q44 ∈ Lq89 := Pq89.1 _ hm70
  have tm96 : Tq89 q44 = (24, 0) := (Pq89.2.1 _ hm70).trans tm70
  have hm97 : q53 ∈ Lq89 := Pq89.1 _ hm71
  have tm97 : Tq89 q53 = (25, 0) := (Pq89.2.1 _ hm71).trans tm71
  have hm98 : q63 ∈ Lq89 := Pq89.1 _ Pq63.2.2.2.1
  have tm98 : Tq89 q63 = (26, 0) := (Pq89.2.1 _ Pq63.2.2.2.1).trans Pq63.2.2.2.2.1
  refine tr_putR Z.1 Z.2.2.2.1 Sq89 hm91 tm91 rfl rfl rfl eq89 rfl (fun _ h => List.mem_cons_of_mem _ (List.mem_append_right _ h)) tyX4_ok nmX4 15 (by decide) (Nat.le_of_ble_eq_true rfl) (Or.inr ⟨hnm, rfl, rfl⟩) (hts _ (List.mem_of_getElem? (i := 21) rfl)) dX4_init_135 rfl rfl (fun Eu99 Hu99 ku99 Su99 ou99 gu99 => ?_)
  have hu99 : Eu99 a0 = .inr (3, [.int v1, .int v3, .int v5, .int v7, .int v9, .int v11, .int v13, .int v15, .ref q18, .ref q23, .ref q29, .ref q36, .ref q44, .ref q53, .ref q63, .ref q89]) := gu99
  have Wu99 : Gr a0 [(27, 0), (26, 0), (25, 0), (24, 0), (23, 0), (22, 0), (21, 0), (20, 0)] L τ E Lq89 Tq89 Eu99 := Gr.wr Wq89 ou99 (Or.inl rfl)
  refine lv_aload_n hx hb dX4_init_138 rfl (lv_at hl 0 rfl) ?_
  refine tr_getR Z.1 Z.2.2.2.1 Su99 hm91 hu99 rfl (fun _ h => List.mem_cons_of_mem _ (List.mem_append_right _ h)) 8 (Nat.le_of_ble_eq_true rfl) rfl (hts _ (List.mem_of_getElem? (i := 13) rfl)) dX4_init_139 ?_
  obtain ⟨v100, ev100, tv100⟩ : ∃ v : Int32, Int32.ofInt (0) = v ∧ v.toInt = 0 := ⟨_, rfl, by decide +kernel⟩
  refine lv_iconst hx hb dX4_init_142 ev100 ?_
  obtain ⟨v101, ev101, tv101⟩ : ∃ v : Int32, (Int8.ofInt (12)).toInt32 = v ∧ v.toInt = 12 := ⟨_, rfl, by decide +kernel⟩
  refine lv_bipush hx hb dX4_init_143 ev101 ?_
  refine tr_iast Z.1 Z.2.2.2.1 Su99.1 Su99.2 hm92 tm92 rfl (by omega) (by omega) (by omega) (by omega) dX4_init_145 (fun Eu102 Hu102 ku102 wu102 iu102 Pu102 => ?_)
  have Su102 : NowG D cy (va_A (va_pl L _) sz) s Lq89 Tq89 Eu102 Hu102 ku102 := ⟨wu102, iu102⟩
  have hu102 : Eu102 a0 = .inr (3, [.int v1, .int v3, .int v5, .int v7, .int v9, .int v11, .int v13, .int v15, .ref q18, .ref q23, .ref q29, .ref q36, .ref q44, .ref q53, .ref q63, .ref q89]) := (Pu102.1 a0 (ne_ro tm91 tm92 (by decide))).trans hu99
  have Wu102 : Gr a0 [(27, 0), (26, 0), (25, 0), (24, 0), (23, 0), (22, 0), (21, 0), (20, 0)] L τ E Lq89 Tq89 Eu102 := Gr.wr Wu99 Pu102.1 (Or.inr f19)
  refine lv_aload_n hx hb dX4_init_146 rfl (lv_at hl 0 rfl) ?_
  refine tr_getR Z.1 Z.2.2.2.1 Su102 hm91 hu102 rfl (fun _ h => List.mem_cons_of_mem _ (List.mem_append_right _ h)) 9 (Nat.le_of_ble_eq_true rfl) rfl (hts _ (List.mem_of_getElem? (i := 14) rfl)) dX4_init_147 ?_
  obtain ⟨v103, ev103, tv103⟩ : ∃ v : Int32, Int32.ofInt (0) = v ∧ v.toInt = 0 := ⟨_, rfl, by decide +kernel⟩
  refine lv_iconst hx hb dX4_init_150 ev103 ?_
  obtain ⟨v104, ev104, tv104⟩ : ∃ v : Int32, (Int16.ofInt (2640)).toInt32 = v ∧ v.toInt = 2640 := ⟨_, rfl, by decide +kernel⟩
  refine lv_sipush hx hb dX4_init_151 ev104 ?_
  refine tr_iast Z.1 Z.2.2.2.1 Su102.1 Su102.2 hm93 tm93 rfl (by omega) (by omega) (by omega) (by omega) dX4_init_154 (fun Eu105 Hu105 ku105 wu105 iu105 Pu105 => ?_)
  have Su105 : NowG D cy (va_A (va_pl L _) sz) s Lq89 Tq89 Eu105 Hu105 ku105 := ⟨wu105, iu105⟩
  have hu105 : Eu105 a0 = .inr (3, [.int v1, .int v3, .int v5, .int v7, .int v9, .int v11, .int v13, .int v15, .ref q18, .ref q23, .ref q29, .ref q36, .ref q44, .ref q53, .ref q63, .ref q89]) := (Pu105.1 a0 (ne_ro tm91 tm93 (by decide))).trans hu102
  have Wu105 : Gr a0 [(27, 0), (26, 0), (25, 0), (24, 0), (23, 0), (22, 0), (21, 0), (20, 0)] L τ E Lq89 Tq89 Eu105 := Gr.wr Wu102 Pu105.1 (Or.inr f24)
  have IR : Inv TB cy Lq89 (upT Tq89 a0 (1, 0)) Eu105 := inv_role Su105.2 tm91 (by decide) (fun _ => Ab.ne Aq89 (by decide)) (fun ci ts h => by
      have h : some ((3 : Nat), ([(0, -2147483648, 2147483647), (0, -2147483648, 2147483647), (0, -2147483648, 2147483647), (0, -2147483648, 2147483647), (0, 0, 3), (0, -2147483648, 2147483647), (0, 0, 8), (0, 0, 8), (1, 20, 0), (1, 21, 0), (1, 22, 0), (1, 23, 0), (1, 24, 0), (1, 25, 0), (1, 26, 0), (1, 27, 0)] : List Ft)) = some (ci, ts) := h
      cases h
      exact okO_of hu105 ⟨⟨v1, rfl, by dsimp only; omega, by dsimp only; omega⟩, ⟨v3, rfl, by dsimp only; omega, by dsimp only; omega⟩, ⟨v5, rfl, by dsimp only; omega, by dsimp only; omega⟩, ⟨v7, rfl, by dsimp only; omega, by dsimp only; omega⟩, ⟨v9, rfl, by dsimp only; omega, by dsimp only; omega⟩, ⟨v11, rfl, by dsimp only; omega, by dsimp only; omega⟩, ⟨v13, rfl, by dsimp only; omega, by dsimp only; omega⟩, ⟨v15, rfl, by dsimp only; omega, by dsimp only; omega⟩, ⟨q18, rfl, hm92, (upT_ne (ne_ro tm92 tm91 (by decide))).trans tm92⟩, ⟨q23, rfl, hm93, (upT_ne (ne_ro tm93 tm91 (by decide))).trans tm93⟩, ⟨q29, rfl, hm94, (upT_ne (ne_ro tm94 tm91 (by decide))).trans tm94⟩, ⟨q36, rfl, hm95, (upT_ne (ne_ro tm95 tm91 (by decide))).trans tm95⟩, ⟨q44, rfl, hm96, (upT_ne (ne_ro tm96 tm91 (by decide))).trans tm96⟩, ⟨q53, rfl, hm97, (upT_ne (ne_ro tm97 tm91 (by decide))).trans tm97⟩, ⟨q63, rfl, hm98, (upT_ne (ne_ro tm98 tm91 (by decide))).trans tm98⟩, ⟨q89, rfl, Pq89.2.2.2.1, (upT_ne (ne_ro Pq89.2.2.2.2.1 tm91 (by decide))).trans Pq89.2.2.2.2.1⟩, trivial⟩) (fun _ _ _ h => nomatch h) (fun _ _ _ h => nomatch h)
  exact en_vG Z ⟨Su105.1, IR⟩ (post := fun _ T9 _ => T9 a0 = (1, 0)) (Gr.role Wu105 ha0) (upT_self _ _ _) dX4_init_155


set_option maxHeartbeats 4000000 in
set_option maxRecDepth 100000 in
theorem k_X4_init_1 (l : Launch) (D : va_G) (cy : Nat → ClassId) {L : List Nat} {τ : Nat → Ro} {E : Ec} (hI : Inv TB cy L τ E) {a0 : Nat} (ha0 : a0 ∈ L) (ta0 : τ a0 = (201, 1)) (he0 : E a0 = .inr (3, [.int 0, .int 0, .int 0, .int 0, .int 0, .int 0, .int 0, .int 0, .null, .null, .null, .null, .null, .null, .null, .null])) (hab0 : Ab L τ []) : CtG l yX4_init wsX4_init { frames := 1, cells := 8, slots := 45, locals := 20 } D cy L τ E [.ref a0] a0 [(27, 1), (26, 1), (25, 1), (24, 1), (23, 1), (22, 1), (21, 1), (20, 1)] 8 45 (fun L' τ' E' => τ' a0 = (1, 1)) := by
  intro sz
  refine staG (cc := cX4_init) (maxL := 1) hI (by decide) rfl (Nat.le_of_ble_eq_true rfl) (fun p e s m args below meth c ls hsz hnm Z hO S0 hl => ?_)
  have hx := Z.1.1
  have hb := Z.1.2.1
  have hts := Z.1.2.2.2.2
  have hnm : meth.name = "<init>" := hnm
  have G0 : Gr a0 [] L τ E L τ E := Gr.refl
  have hl : lv_has ls 1 [(0, .ref a0)] := hl
  refine lv_aload_n hx hb dX4_init_0 rfl (lv_at hl 0 rfl) ?_
  refine tr_obj Z.1 hl.1 (hts _ (List.mem_of_getElem? (i := 1) rfl)) (hts _ (List.mem_of_getElem? (i := 2) rfl)) (hts _ (List.mem_of_getElem? (i := 3) rfl)) dX4_init_1 (Nat.le_of_ble_eq_true rfl) (Nat.le_of_ble_eq_true rfl) ?_
  refine lv_aload_n hx hb dX4_init_4 rfl (lv_at hl 0 rfl) ?_
  obtain ⟨v1, ev1, tv1⟩ : ∃ v : Int32, (Int16.ofInt (2600)).toInt32 = v ∧ v.toInt = 2600 := ⟨_, rfl, by decide +kernel⟩
  refine lv_sipush hx hb dX4_init_5 ev1 ?_
  refine tr_putR Z.1 Z.2.2.2.1 S0 ha0 ta0 rfl rfl rfl he0 rfl (fun _ h => List.mem_cons_of_mem _ (List.mem_append_right _ h)) tyX4_ok nmX4 0 (by decide) (Nat.le_of_ble_eq_true rfl) (Or.inl rfl) (hts _ (List.mem_of_getElem? (i := 4) rfl)) dX4_init_8 rfl rfl (fun Eu2 Hu2 ku2 Su2 ou2 gu2 => ?_)
  have hu2 : Eu2 a0 = .inr (3, [.int v1, .int 0, .int 0, .int 0, .int 0, .int 0, .int 0, .int 0, .null, .null, .null, .null, .null, .null, .null, .null]) := gu2
  have Wu2 : Gr a0 [] L τ E L τ Eu2 := Gr.wr G0 ou2 (Or.inl rfl)
  refine lv_aload_n hx hb dX4_init_11 rfl (lv_at hl 0 rfl) ?_
  obtain ⟨v3, ev3, tv3⟩ : ∃ v : Int32, (Int16.ofInt (900)).toInt32 = v ∧ v.toInt = 900 := ⟨_, rfl, by decide +kernel⟩
  refine lv_sipush hx hb dX4_init_12 ev3 ?_
  refine tr_putR Z.1 Z.2.2.2.1 Su2 ha0 ta0 rfl rfl rfl hu2 rfl (fun _ h => List.mem_cons_of_mem _ (List.mem_append_right _ h)) tyX4_ok nmX4 1 (by decide) (Nat.le_of_ble_eq_true rfl) (Or.inl rfl) (hts _ (List.mem_of_getElem? (i := 5) rfl)) dX4_init_15 rfl rfl (fun Eu4 Hu4 ku4 Su4 ou4 gu4 => ?_)
  have hu4 : Eu4 a0 = .inr (3, [.int v1, .int v3, .int 0, .int 0, .int 0, .int 0, .int 0, .int 0, .null, .null, .null, .null, .null, .null, .null, .null]) := gu4
  have Wu4 : Gr a0 [] L τ E L τ Eu4 := Gr.wr Wu2 ou4 (Or.inl rfl)
  refine lv_aload_n hx hb dX4_init_18 rfl (lv_at hl 0 rfl) ?_
  obtain ⟨v5, ev5, tv5⟩ : ∃ v : Int32, (Int16.ofInt (400)).toInt32 = v ∧ v.toInt = 400 := ⟨_, rfl, by decide +kernel⟩
  refine lv_sipush hx hb dX4_init_19 ev5 ?_
  refine tr_putR Z.1 Z.2.2.2.1 Su4 ha0 ta0 rfl rfl rfl hu4 rfl (fun _ h => List.mem_cons_of_mem _ (List.mem_append_right _ h)) tyX4_ok nmX4 2 (by decide) (Nat.le_of_ble_eq_true rfl) (Or.inl rfl) (hts _ (List.mem_of_getElem? (i := 6) rfl)) dX4_init_22 rfl rfl (fun Eu6 Hu6 ku6 Su6 ou6 gu6 => ?_)
  have hu6 : Eu6 a0 = .inr (3, [.int v1, .int v3, .int v5, .int 0, .int 0, .int 0, .int 0, .int 0, .null, .null, .null, .null, .null, .null, .null, .null]) := gu6
  have Wu6 : Gr a0 [] L τ E L τ Eu6 := Gr.wr Wu4 ou6 (Or.inl rfl)
  refine lv_aload_n hx hb dX4_init_25 rfl (lv_at hl 0 rfl) ?_
  obtain ⟨v7, ev7, tv7⟩ : ∃ v : Int32, (Int8.ofInt (60)).toInt32 = v ∧ v.toInt = 60 := ⟨_, rfl, by decide +kernel⟩
  refine lv_bipush hx hb dX4_init_26 ev7 ?_
  refine tr_putR Z.1 Z.2.2.2.1 Su6 ha0 ta0 rfl rfl rfl hu6 rfl (fun _ h => List.mem_cons_of_mem _ (List.mem_append_right _ h)) tyX4_ok nmX4 3 (by decide) (Nat.le_of_ble_eq_true rfl) (Or.inl rfl) (hts _ (List.mem_of_getElem? (i := 7) rfl)) dX4_init_28 rfl rfl (fun Eu8 Hu8 ku8 Su8 ou8 gu8 => ?_)
  have hu8 : Eu8 a0 = .inr (3, [.int v1, .int v3, .int v5, .int v7, .int 0, .int 0, .int 0, .int 0, .null, .null, .null, .null, .null, .null, .null, .null]) := gu8
  have Wu8 : Gr a0 [] L τ E L τ Eu8 := Gr.wr Wu6 ou8 (Or.inl rfl)
  refine lv_aload_n hx hb dX4_init_31 rfl (lv_at hl 0 rfl) ?_
  obtain ⟨v9, ev9, tv9⟩ : ∃ v : Int32, Int32.ofInt (1) = v ∧ v.toInt = 1 := ⟨_, rfl, by decide +kernel⟩
  refine lv_iconst hx hb dX4_init_32 ev9 ?_
  refine tr_putR Z.1 Z.2.2.2.1 Su8 ha0 ta0 rfl rfl rfl hu8 rfl (fun _ h => List.mem_cons_of_mem _ (List.mem_append_right _ h)) tyX4_ok nmX4 4 (by decide) (Nat.le_of_ble_eq_true rfl) (Or.inl rfl) (hts _ (List.mem_of_getElem? (i := 8) rfl)) dX4_init_33 rfl rfl (fun Eu10 Hu10 ku10 Su10 ou10 gu10 => ?_)
  have hu10 : Eu10 a0 = .inr (3, [.int v1, .int v3, .int v5, .int v7, .int v9, .int 0, .int 0, .int 0, .null, .null, .null, .null, .null, .null, .null, .null]) := gu10
  have Wu10 : Gr a0 [] L τ E L τ Eu10 := Gr.wr Wu8 ou10 (Or.inl rfl)
  refine lv_aload_n hx hb dX4_init_36 rfl (lv_at hl 0 rfl) ?_
  obtain ⟨v11, ev11, tv11⟩ : ∃ v : Int32, Int32.ofInt (0) = v ∧ v.toInt = 0 := ⟨_, rfl, by decide +kernel⟩
  refine lv_iconst hx hb dX4_init_37 ev11 ?_
  refine tr_putR Z.1 Z.2.2.2.1 Su10 ha0 ta0 rfl rfl rfl hu10 rfl (fun _ h => List.mem_cons_of_mem _ (List.mem_append_right _ h)) tyX4_ok nmX4 5 (by decide) (Nat.le_of_ble_eq_true rfl) (Or.inl rfl) (hts _ (List.mem_of_getElem? (i := 9) rfl)) dX4_init_38 rfl rfl (fun Eu12 Hu12 ku12 Su12 ou12 gu12 => ?_)
  have hu12 : Eu12 a0 = .inr (3, [.int v1, .int v3, .int v5, .int v7, .int v9, .int v11, .int 0, .int 0, .null, .null, .null, .null, .null, .null, .null, .null]) := gu12
  have Wu12 : Gr a0 [] L τ E L τ Eu12 := Gr.wr Wu10 ou12 (Or.inl rfl)
  refine lv_aload_n hx hb dX4_init_41 rfl (lv_at hl 0 rfl) ?_
  obtain ⟨v13, ev13, tv13⟩ : ∃ v : Int32, Int32.ofInt (0) = v ∧ v.toInt = 0 := ⟨_, rfl, by decide +kernel⟩
  refine lv_iconst hx hb dX4_init_42 ev13 ?_
  refine tr_putR Z.1 Z.2.2.2.1 Su12 ha0 ta0 rfl rfl rfl hu12 rfl (fun _ h => List.mem_cons_of_mem _ (List.mem_append_right _ h)) tyX4_ok nmX4 6 (by decide) (Nat.le_of_ble_eq_true rfl) (Or.inl rfl) (hts _ (List.mem_of_getElem? (i := 10) rfl)) dX4_init_43 rfl rfl (fun Eu14 Hu14 ku14 Su14 ou14 gu14 => ?_)
  have hu14 : Eu14 a0 = .inr (3, [.int v1, .int v3, .int v5, .int v7, .int v9, .int v11, .int v13, .int 0, .null, .null, .null, .null, .null, .null, .null, .null]) := gu14
  have Wu14 : Gr a0 [] L τ E L τ Eu14 := Gr.wr Wu12 ou14 (Or.inl rfl)
  refine lv_aload_n hx hb dX4_init_46 rfl (lv_at hl 0 rfl) ?_
  obtain ⟨v15, ev15, tv15⟩ : ∃ v : Int32, Int32.ofInt (0) = v ∧ v.toInt = 0 := ⟨_, rfl, by decide +kernel⟩
  refine lv_iconst hx hb dX4_init_47 ev15 ?_
  refine tr_putR Z.1 Z.2.2.2.1 Su14 ha0 ta0 rfl rfl rfl hu14 rfl (fun _ h => List.mem_cons_of_mem _ (List.mem_append_right _ h)) tyX4_ok nmX4 7 (by decide) (Nat.le_of_ble_eq_true rfl) (Or.inl rfl) (hts _ (List.mem_of_getElem? (i := 11) rfl)) dX4_init_48 rfl rfl (fun Eu16 Hu16 ku16 Su16 ou16 gu16 => ?_)
  have hu16 : Eu16 a0 = .inr (3, [.int v1, .int v3, .int v5, .int v7, .int v9, .int v11, .int v13, .int v15, .null, .null, .null, .null, .null, .null, .null, .null]) := gu16
  have Wu16 : Gr a0 [] L τ E L τ Eu16 := Gr.wr Wu14 ou16 (Or.inl rfl)
  refine lv_aload_n hx hb dX4_init_51 rfl (lv_at hl 0 rfl) ?_
  obtain ⟨v17, ev17, tv17⟩ : ∃ v : Int32, Int32.ofInt (3) = v ∧ v.toInt = 3 := ⟨_, rfl, by decide +kernel⟩
  refine lv_iconst hx hb dX4_init_52 ev17 ?_
  refine tr_newi Z.1 Z.2.2.2.1 Z.2.2.2.2.2 Su16 (hts _ (List.mem_of_getElem? (i := 12) rfl)) rfl 0 rfl 3 (by omega) (vc_ty _ rfl _) (Nat.le_of_ble_eq_true rfl) (20, 1) rfl rfl rfl (fun i => ⟨(by decide : (-2147483648 : Int) ≤ 0), (by decide : (0 : Int) ≤ 2147483647)⟩) (fun h => nomatch h) (Nat.le_of_ble_eq_true rfl) (Nat.le_of_ble_eq_true rfl) dX4_init_53 (fun Lq18 Tq18 Eq18 q18 Hq18 Sq18 Pq18 => ?_)
  have Wq18 : Gr a0 [(20, 1)] L τ E Lq18 Tq18 Eq18 := Gr.push Wu16 Pq18
  have f19 : q18 ∉ L := Gr.fresh Wu16 Pq18
  have Aq18 : Ab Lq18 Tq18 [] := Ab.push hab0 Pq18 (by decide) (by decide)
  have eq18 : Eq18 a0 = .inr (3, [.int v1, .int v3, .int v5, .int v7, .int v9, .int v11, .int v13, .int v15, .null, .null, .null, .null, .null, .null, .null, .null]) := (Pq18.2.2.1 a0 ha0).trans hu16
  have hm20 : a0 ∈ Lq18 := Pq18.1 _ ha0
  have tm20 : Tq18 a0 = (201, 1) := (Pq18.2.1 _ ha0).trans ta0
  refine tr_putR Z.1 Z.2.2.2.1 Sq18 hm20 tm20 rfl rfl rfl eq18 rfl (fun _ h => List.mem_cons_of_mem _ (List.mem_append_right _ h)) tyX4_ok nmX4 8 (by decide) (Nat.le_of_ble_eq_true rfl) (Or.inr ⟨hnm, rfl, rfl⟩) (hts _ (List.mem_of_getElem? (i := 13) rfl)) dX4_init_55 rfl rfl (fun Eu21 Hu21 ku21 Su21 ou21 gu21 => ?_)
  have hu21 : Eu21 a0 = .inr (3, [.int v1, .int v3, .int v5, .int v7, .int v9, .int v11, .int v13, .int v15, .ref q18, .null, .null, .null, .null, .null, .null, .null]) := gu21
  have Wu21 : Gr a0 [(20, 1)] L τ E Lq18 Tq18 Eu21 := Gr.wr Wq18 ou21 (Or.inl rfl)
  refine lv_aload_n hx hb dX4_init_58 rfl (lv_at hl 0 rfl) ?_
  obtain ⟨v22, ev22, tv22⟩ : ∃ v : Int32, Int32.ofInt (3) = v ∧ v.toInt = 3 := ⟨_, rfl, by decide +kernel⟩
  refine lv_iconst hx hb dX4_init_59 ev22 ?_
  refine tr_newi Z.1 Z.2.2.2.1 Z.2.2.2.2.2 Su21 (hts _ (List.mem_of_getElem? (i := 12) rfl)) rfl 0 rfl 3 (by omega) (vc_ty _ rfl _) (Nat.le_of_ble_eq_true rfl) (21, 1) rfl rfl rfl (fun i => ⟨(by decide : (-2147483648 : Int) ≤ 0), (by decide : (0 : Int) ≤ 2147483647)⟩) (fun h => nomatch h) (Nat.le_of_ble_eq_true rfl) (Nat.le_of_ble_eq_true rfl) dX4_init_60 (fun Lq23 Tq23 Eq23 q23 Hq23 Sq23 Pq23 => ?_)
  have Wq23 : Gr a0 [(21, 1), (20, 1)] L τ E Lq23 Tq23 Eq23 := Gr.push Wu21 Pq23
  have f24 : q23 ∉ L := Gr.fresh Wu21 Pq23
  have Aq23 : Ab Lq23 Tq23 [] := Ab.push Aq18 Pq23 (by decide) (by decide)
  have eq23 : Eq23 a0 = .inr (3, [.int v1, .int v3, .int v5, .int v7, .int v9, .int v11, .int v13, .int v15, .ref q18, .null, .null, .null, .null, .null, .null, .null]) := (Pq23.2.2.1 a0 hm20).trans hu21
  have hm25 : a0 ∈ Lq23 := Pq23.1 _ hm20
  have tm25 : Tq23 a0 = (201, 1) := (Pq23.2.1 _ hm20).trans tm20
  have hm26 : q18 ∈ Lq23 := Pq23.1 _ Pq18.2.2.2.1
  have tm26 : Tq23 q18 = (20, 1) := (Pq23.2.1 _ Pq18.2.2.2.1).trans Pq18.2.2.2.2.1
  refine tr_putR Z.1 Z.2.2.2.1 Sq23 hm25 tm25 rfl rfl rfl eq23 rfl (fun _ h => List.mem_cons_of_mem _ (List.mem_append_right _ h)) tyX4_ok nmX4 9 (by decide) (Nat.le_of_ble_eq_true rfl) (Or.inr ⟨hnm, rfl, rfl⟩) (hts _ (List.mem_of_getElem? (i := 14) rfl)) dX4_init_62 rfl rfl (fun Eu27 Hu27 ku27 Su27 ou27 gu27 => ?_)
  have hu27 : Eu27 a0 = .inr (3, [.int v1, .int v3, .int v5, .int v7, .int v9, .int v11, .int v13, .int v15, .ref q18, .ref q23, .null, .null, .null, .null, .null, .null]) := gu27
  have Wu27 : Gr a0 [(21, 1), (20, 1)] L τ E Lq23 Tq23 Eu27 := Gr.wr Wq23 ou27 (Or.inl rfl)
  refine lv_aload_n hx hb dX4_init_65 rfl (lv_at hl 0 rfl) ?_
  obtain ⟨v28, ev28, tv28⟩ : ∃ v : Int32, Int32.ofInt (2) = v ∧ v.toInt = 2 := ⟨_, rfl, by decide +kernel⟩
  refine lv_iconst hx hb dX4_init_66 ev28 ?_
  refine tr_newi Z.1 Z.2.2.2.1 Z.2.2.2.2.2 Su27 (hts _ (List.mem_of_getElem? (i := 12) rfl)) rfl 0 rfl 2 (by omega) (vc_ty _ rfl _) (Nat.le_of_ble_eq_true rfl) (22, 1) rfl rfl rfl (fun i => ⟨(by decide : (-2147483648 : Int) ≤ 0), (by decide : (0 : Int) ≤ 2147483647)⟩) (fun h => nomatch h) (Nat.le_of_ble_eq_true rfl) (Nat.le_of_ble_eq_true rfl) dX4_init_67 (fun Lq29 Tq29 Eq29 q29 Hq29 Sq29 Pq29 => ?_)
  have Wq29 : Gr a0 [(22, 1), (21, 1), (20, 1)] L τ E Lq29 Tq29 Eq29 := Gr.push Wu27 Pq29
  have f30 : q29 ∉ L := Gr.fresh Wu27 Pq29
  have Aq29 : Ab Lq29 Tq29 [] := Ab.push Aq23 Pq29 (by decide) (by decide)
  have eq29 : Eq29 a0 = .inr (3, [.int v1, .int v3, .int v5, .int v7, .int v9, .int v11, .int v13, .int v15, .ref q18, .ref q23, .null, .null, .null, .null, .null, .null]) := (Pq29.2.2.1 a0 hm25).trans hu27
  have hm31 : a0 ∈ Lq29 := Pq29.1 _ hm25
  have tm31 : Tq29 a0 = (201, 1) := (Pq29.2.1 _ hm25).trans tm25
  have hm32 : q18 ∈ Lq29 := Pq29.1 _ hm26
  have tm32 : Tq29 q18 = (20, 1) := (Pq29.2.1 _ hm26).trans tm26
  have hm33 : q23 ∈ Lq29 := Pq29.1 _ Pq23.2.2.2.1
  have tm33 : Tq29 q23 = (21, 1) := (Pq29.2.1 _ Pq23.2.2.2.1).trans Pq23.2.2.2.2.1
  refine tr_putR Z.1 Z.2.2.2.1 Sq29 hm31 tm31 rfl rfl rfl eq29 rfl (fun _ h => List.mem_cons_of_mem _ (List.mem_append_right _ h)) tyX4_ok nmX4 10 (by decide) (Nat.le_of_ble_eq_true rfl) (Or.inr ⟨hnm, rfl, rfl⟩) (hts _ (List.mem_of_getElem? (i := 15) rfl)) dX4_init_69 rfl rfl (fun Eu34 Hu34 ku34 Su34 ou34 gu34 => ?_)
  have hu34 : Eu34 a0 = .inr (3, [.int v1, .int v3, .int v5, .int v7, .int v9, .int v11, .int v13, .int v15, .ref q18, .ref q23, .ref q29, .null, .null, .null, .null, .null]) := gu34
  have Wu34 : Gr a0 [(22, 1), (21, 1), (20, 1)] L τ E Lq29 Tq29 Eu34 := Gr.wr Wq29 ou34 (Or.inl rfl)
  refine lv_aload_n hx hb dX4_init_72 rfl (lv_at hl 0 rfl) ?_
  obtain ⟨v35, ev35, tv35⟩ : ∃ v : Int32, (Int8.ofInt (8)).toInt32 = v ∧ v.toInt = 8 := ⟨_, rfl, by decide +kernel⟩
  refine lv_bipush hx hb dX4_init_73 ev35 ?_
  refine tr_newi Z.1 Z.2.2.2.1 Z.2.2.2.2.2 Su34 (hts _ (List.mem_of_getElem? (i := 12) rfl)) rfl 0 rfl 8 (by omega) (vc_ty _ rfl _) (Nat.le_of_ble_eq_true rfl) (23, 1) rfl rfl rfl (fun i => ⟨(by decide : (-2147483648 : Int) ≤ 0), (by decide : (0 : Int) ≤ 2147483647)⟩) (fun h => nomatch h) (Nat.le_of_ble_eq_true rfl) (Nat.le_of_ble_eq_true rfl) dX4_init_75 (fun Lq36 Tq36 Eq36 q36 Hq36 Sq36 Pq36 => ?_)
  have Wq36 : Gr a0 [(23, 1), (22, 1), (21, 1), (20, 1)] L τ E Lq36 Tq36 Eq36 := Gr.push Wu34 Pq36
  have f37 : q36 ∉ L := Gr.fresh Wu34 Pq36
  have Aq36 : Ab Lq36 Tq36 [] := Ab.push Aq29 Pq36 (by decide) (by decide)
  have eq36 : Eq36 a0 = .inr (3, [.int v1, .int v3, .int v5, .int v7, .int v9, .int v11, .int v13, .int v15, .ref q18, .ref q23, .ref q29, .null, .null, .null, .null, .null]) := (Pq36.2.2.1 a0 hm31).trans hu34
  have hm38 : a0 ∈ Lq36 := Pq36.1 _ hm31
  have tm38 : Tq36 a0 = (201, 1) := (Pq36.2.1 _ hm31).trans tm31
  have hm39 : q18 ∈ Lq36 := Pq36.1 _ hm32
  have tm39 : Tq36 q18 = (20, 1) := (Pq36.2.1 _ hm32).trans tm32
  have hm40 : q23 ∈ Lq36 := Pq36.1 _ hm33
  have tm40 : Tq36 q23 = (21, 1) := (Pq36.2.1 _ hm33).trans tm33
  have hm41 : q29 ∈ Lq36 := Pq36.1 _ Pq29.2.2.2.1
  have tm41 : Tq36 q29 = (22, 1) := (Pq36.2.1 _ Pq29.2.2.2.1).trans Pq29.2.2.2.2.1
  refine tr_putR Z.1 Z.2.2.2.1 Sq36 hm38 tm38 rfl rfl rfl eq36 rfl (fun _ h => List.mem_cons_of_mem _ (List.mem_append_right _ h)) tyX4_ok nmX4 11 (by decide) (Nat.le_of_ble_eq_true rfl) (Or.inr ⟨hnm, rfl, rfl⟩) (hts _ (List.mem_of_getElem? (i := 16) rfl)) dX4_init_77 rfl rfl (fun Eu42 Hu42 ku42 Su42 ou42 gu42 => ?_)
  have hu42 : Eu42 a0 = .inr (3, [.int v1, .int v3, .int v5, .int v7, .int v9, .int v11, .int v13, .int v15, .ref q18, .ref q23, .ref q29, .ref q36, .null, .null, .null, .null]) := gu42
  have Wu42 : Gr a0 [(23, 1), (22, 1), (21, 1), (20, 1)] L τ E Lq36 Tq36 Eu42 := Gr.wr Wq36 ou42 (Or.inl rfl)
  refine lv_aload_n hx hb dX4_init_80 rfl (lv_at hl 0 rfl) ?_
  obtain ⟨v43, ev43, tv43⟩ : ∃ v : Int32, (Int8.ofInt (8)).toInt32 = v ∧ v.toInt = 8 := ⟨_, rfl, by decide +kernel⟩
  refine lv_bipush hx hb dX4_init_81 ev43 ?_
  refine tr_newi Z.1 Z.2.2.2.1 Z.2.2.2.2.2 Su42 (hts _ (List.mem_of_getElem? (i := 12) rfl)) rfl 0 rfl 8 (by omega) (vc_ty _ rfl _) (Nat.le_of_ble_eq_true rfl) (24, 1) rfl rfl rfl (fun i => ⟨(by decide : (-2147483648 : Int) ≤ 0), (by decide : (0 : Int) ≤ 2147483647)⟩) (fun h => nomatch h) (Nat.le_of_ble_eq_true rfl) (Nat.le_of_ble_eq_true rfl) dX4_init_83 (fun Lq44 Tq44 Eq44 q44 Hq44 Sq44 Pq44 => ?_)
  have Wq44 : Gr a0 [(24, 1), (23, 1), (22, 1), (21, 1), (20, 1)] L τ E Lq44 Tq44 Eq44 := Gr.push Wu42 Pq44
  have f45 : q44 ∉ L := Gr.fresh Wu42 Pq44
  have Aq44 : Ab Lq44 Tq44 [] := Ab.push Aq36 Pq44 (by decide) (by decide)
  have eq44 : Eq44 a0 = .inr (3, [.int v1, .int v3, .int v5, .int v7, .int v9, .int v11, .int v13, .int v15, .ref q18, .ref q23, .ref q29, .ref q36, .null, .null, .null, .null]) := (Pq44.2.2.1 a0 hm38).trans hu42
  have hm46 : a0 ∈ Lq44 := Pq44.1 _ hm38
  have tm46 : Tq44 a0 = (201, 1) := (Pq44.2.1 _ hm38).trans tm38
  have hm47 : q18 ∈ Lq44 := Pq44.1 _ hm39
  have tm47 : Tq44 q18 = (20, 1) := (Pq44.2.1 _ hm39).trans tm39
  have hm48 : q23 ∈ Lq44 := Pq44.1 _ hm40
  have tm48 : Tq44 q23 = (21, 1) := (Pq44.2.1 _ hm40).trans tm40
  have hm49 : q29 ∈ Lq44 := Pq44.1 _ hm41
  have tm49 : Tq44 q29 = (22, 1) := (Pq44.2.1 _ hm41).trans tm41
  have hm50 : q36 ∈ Lq44 := Pq44.1 _ Pq36.2.2.2.1
  have tm50 : Tq44 q36 = (23, 1) := (Pq44.2.1 _ Pq36.2.2.2.1).trans Pq36.2.2.2.2.1
  refine tr_putR Z.1 Z.2.2.2.1 Sq44 hm46 tm46 rfl rfl rfl eq44 rfl (fun _ h => List.mem_cons_of_mem _ (List.mem_append_right _ h)) tyX4_ok nmX4 12 (by decide) (Nat.le_of_ble_eq_true rfl) (Or.inr ⟨hnm, rfl, rfl⟩) (hts _ (List.mem_of_getElem? (i := 17) rfl)) dX4_init_85 rfl rfl (fun Eu51 Hu51 ku51 Su51 ou51 gu51 => ?_)
  have hu51 : Eu51 a0 = .inr (3, [.int v1, .int v3, .int v5, .int v7, .int v9, .int v11, .int v13, .int v15, .ref q18, .ref q23, .ref q29, .ref q36, .ref q44, .null, .null, .null]) := gu51
  have Wu51 : Gr a0 [(24, 1), (23, 1), (22, 1), (21, 1), (20, 1)] L τ E Lq44 Tq44 Eu51 := Gr.wr Wq44 ou51 (Or.inl rfl)
  refine lv_aload_n hx hb dX4_init_88 rfl (lv_at hl 0 rfl) ?_
  obtain ⟨v52, ev52, tv52⟩ : ∃ v : Int32, (Int8.ofInt (8)).toInt32 = v ∧ v.toInt = 8 := ⟨_, rfl, by decide +kernel⟩
  refine lv_bipush hx hb dX4_init_89 ev52 ?_
  refine tr_newi Z.1 Z.2.2.2.1 Z.2.2.2.2.2 Su51 (hts _ (List.mem_of_getElem? (i := 12) rfl)) rfl 0 rfl 8 (by omega) (vc_ty _ rfl _) (Nat.le_of_ble_eq_true rfl) (25, 1) rfl rfl rfl (fun i => ⟨(by decide : (-2147483648 : Int) ≤ 0), (by decide : (0 : Int) ≤ 2147483647)⟩) (fun h => nomatch h) (Nat.le_of_ble_eq_true rfl) (Nat.le_of_ble_eq_true rfl) dX4_init_91 (fun Lq53 Tq53 Eq53 q53 Hq53 Sq53 Pq53 => ?_)
  have Wq53 : Gr a0 [(25, 1), (24, 1), (23, 1), (22, 1), (21, 1), (20, 1)] L τ E Lq53 Tq53 Eq53 := Gr.push Wu51 Pq53
  have f54 : q53 ∉ L := Gr.fresh Wu51 Pq53
  have Aq53 : Ab Lq53 Tq53 [] := Ab.push Aq44 Pq53 (by decide) (by decide)
  have eq53 : Eq53 a0 = .inr (3, [.int v1, .int v3, .int v5, .int v7, .int v9, .int v11, .int v13, .int v15, .ref q18, .ref q23, .ref q29, .ref q36, .ref q44, .null, .null, .null]) := (Pq53.2.2.1 a0 hm46).trans hu51
  have hm55 : a0 ∈ Lq53 := Pq53.1 _ hm46
  have tm55 : Tq53 a0 = (201, 1) := (Pq53.2.1 _ hm46).trans tm46
  have hm56 : q18 ∈ Lq53 := Pq53.1 _ hm47
  have tm56 : Tq53 q18 = (20, 1) := (Pq53.2.1 _ hm47).trans tm47
  have hm57 : q23 ∈ Lq53 := Pq53.1 _ hm48
  have tm57 : Tq53 q23 = (21, 1) := (Pq53.2.1 _ hm48).trans tm48
  have hm58 : q29 ∈ Lq53 := Pq53.1 _ hm49
  have tm58 : Tq53 q29 = (22, 1) := (Pq53.2.1 _ hm49).trans tm49
  have hm59 : q36 ∈ Lq53 := Pq53.1 _ hm50
  have tm59 : Tq53 q36 = (23, 1) := (Pq53.2.1 _ hm50).trans tm50
  have hm60 : q44 ∈ Lq53 := Pq53.1 _ Pq44.2.2.2.1
  have tm60 : Tq53 q44 = (24, 1) := (Pq53.2.1 _ Pq44.2.2.2.1).trans Pq44.2.2.2.2.1
  refine tr_putR Z.1 Z.2.2.2.1 Sq53 hm55 tm55 rfl rfl rfl eq53 rfl (fun _ h => List.mem_cons_of_mem _ (List.mem_append_right _ h)) tyX4_ok nmX4 13 (by decide) (Nat.le_of_ble_eq_true rfl) (Or.inr ⟨hnm, rfl, rfl⟩) (hts _ (List.mem_of_getElem? (i := 18) rfl)) dX4_init_93 rfl rfl (fun Eu61 Hu61 ku61 Su61 ou61 gu61 => ?_)
  have hu61 : Eu61 a0 = .inr (3, [.int v1, .int v3, .int v5, .int v7, .int v9, .int v11, .int v13, .int v15, .ref q18, .ref q23, .ref q29, .ref q36, .ref q44, .ref q53, .null, .null]) := gu61
  have Wu61 : Gr a0 [(25, 1), (24, 1), (23, 1), (22, 1), (21, 1), (20, 1)] L τ E Lq53 Tq53 Eu61 := Gr.wr Wq53 ou61 (Or.inl rfl)
  refine lv_aload_n hx hb dX4_init_96 rfl (lv_at hl 0 rfl) ?_
  obtain ⟨v62, ev62, tv62⟩ : ∃ v : Int32, Int32.ofInt (5) = v ∧ v.toInt = 5 := ⟨_, rfl, by decide +kernel⟩
  refine lv_iconst hx hb dX4_init_97 ev62 ?_
  refine tr_newi Z.1 Z.2.2.2.1 Z.2.2.2.2.2 Su61 (hts _ (List.mem_of_getElem? (i := 12) rfl)) rfl 0 rfl 5 (by omega) (vc_ty _ rfl _) (Nat.le_of_ble_eq_true rfl) (26, 1) rfl rfl rfl (fun i => ⟨(by decide : (-2147483648 : Int) ≤ 0), (by decide : (0 : Int) ≤ 2147483647)⟩) (fun h => nomatch h) (Nat.le_of_ble_eq_true rfl) (Nat.le_of_ble_eq_true rfl) dX4_init_98 (fun Lq63 Tq63 Eq63 q63 Hq63 Sq63 Pq63 => ?_)
  have Wq63 : Gr a0 [(26, 1), (25, 1), (24, 1), (23, 1), (22, 1), (21, 1), (20, 1)] L τ E Lq63 Tq63 Eq63 := Gr.push Wu61 Pq63
  have f64 : q63 ∉ L := Gr.fresh Wu61 Pq63
  have Aq63 : Ab Lq63 Tq63 [] := Ab.push Aq53 Pq63 (by decide) (by decide)
  have eq63 : Eq63 a0 = .inr (3, [.int v1, .int v3, .int v5, .int v7, .int v9, .int v11, .int v13, .int v15, .ref q18, .ref q23, .ref q29, .ref q36, .ref q44, .ref q53, .null, .null]) := (Pq63.2.2.1 a0 hm55).trans hu61
  have hm65 : a0 ∈ Lq63 := Pq63.1 _ hm55
  have tm65 : Tq63 a0 = (201, 1) := (Pq63.2.1 _ hm55).trans tm55
  have hm66 : q18 ∈ Lq63 := Pq63.1 _ hm56
  have tm66 : Tq63 q18 = (20, 1) := (Pq63.2.1 _ hm56).trans tm56
  have hm67 : q23 ∈ Lq63 := Pq63.1 _ hm57
  have tm67 : Tq63 q23 = (21, 1) := (Pq63.2.1 _ hm57).trans tm57
  have hm68 : q29 ∈ Lq63 := Pq63.1 _ hm58
  have tm68 : Tq63 q29 = (22, 1) := (Pq63.2.1 _ hm58).trans tm58
  have hm69 : q36 ∈ Lq63 := Pq63.1 _ hm59
  have tm69 : Tq63 q36 = (23, 1) := (Pq63.2.1 _ hm59).trans tm59
  have hm70 : q44 ∈ Lq63 := Pq63.1 _ hm60
  have tm70 : Tq63 q44 = (24, 1) := (Pq63.2.1 _ hm60).trans tm60
  have hm71 : q53 ∈ Lq63 := Pq63.1 _ Pq53.2.2.2.1
  have tm71 : Tq63 q53 = (25, 1) := (Pq63.2.1 _ Pq53.2.2.2.1).trans Pq53.2.2.2.2.1
  refine lv_dup hx hb dX4_init_100 rfl ?_
  obtain ⟨v72, ev72, tv72⟩ : ∃ v : Int32, Int32.ofInt (0) = v ∧ v.toInt = 0 := ⟨_, rfl, by decide +kernel⟩
  refine lv_iconst hx hb dX4_init_101 ev72 ?_
  obtain ⟨v73, ev73, tv73⟩ : ∃ v : Int32, (Int8.ofInt (50)).toInt32 = v ∧ v.toInt = 50 := ⟨_, rfl, by decide +kernel⟩
  refine lv_bipush hx hb dX4_init_102 ev73 ?_
  refine tr_iast Z.1 Z.2.2.2.1 Sq63.1 Sq63.2 Pq63.2.2.2.1 Pq63.2.2.2.2.1 rfl (by omega) (by omega) (by omega) (by omega) dX4_init_104 (fun Eu74 Hu74 ku74 wu74 iu74 Pu74 => ?_)
  have Su74 : NowG D cy (va_A (va_pl L _) sz) s Lq63 Tq63 Eu74 Hu74 ku74 := ⟨wu74, iu74⟩
  have hu74 : Eu74 a0 = .inr (3, [.int v1, .int v3, .int v5, .int v7, .int v9, .int v11, .int v13, .int v15, .ref q18, .ref q23, .ref q29, .ref q36, .ref q44, .ref q53, .null, .null]) := (Pu74.1 a0 (ne_ro tm65 Pq63.2.2.2.2.1 (by decide))).trans eq63
  have Wu74 : Gr a0 [(26, 1), (25, 1), (24, 1), (23, 1), (22, 1), (21, 1), (20, 1)] L τ E Lq63 Tq63 Eu74 := Gr.wr Wq63 Pu74.1 (Or.inr f64)
  refine lv_dup hx hb dX4_init_105 rfl ?_
  obtain ⟨v75, ev75, tv75⟩ : ∃ v : Int32, Int32.ofInt (1) = v ∧ v.toInt = 1 := ⟨_, rfl, by decide +kernel⟩
  refine lv_iconst hx hb dX4_init_106 ev75 ?_
  obtain ⟨v76, ev76, tv76⟩ : ∃ v : Int32, (Int8.ofInt (80)).toInt32 = v ∧ v.toInt = 80 := ⟨_, rfl, by decide +kernel⟩
  refine lv_bipush hx hb dX4_init_107 ev76 ?_
  refine tr_iast Z.1 Z.2.2.2.1 Su74.1 Su74.2 Pq63.2.2.2.1 Pq63.2.2.2.2.1 rfl (by omega) (by omega) (by omega) (by omega) dX4_init_109 (fun Eu77 Hu77 ku77 wu77 iu77 Pu77 => ?_)
  have Su77 : NowG D cy (va_A (va_pl L _) sz) s Lq63 Tq63 Eu77 Hu77 ku77 := ⟨wu77, iu77⟩
  have hu77 : Eu77 a0 = .inr (3, [.int v1, .int v3, .int v5, .int v7, .int v9, .int v11, .int v13, .int v15, .ref q18, .ref q23, .ref q29, .ref q36, .ref q44, .ref q53, .null, .null]) := (Pu77.1 a0 (ne_ro tm65 Pq63.2.2.2.2.1 (by decide))).trans hu74
  have Wu77 : Gr a0 [(26, 1), (25, 1), (24, 1), (23, 1), (22, 1), (21, 1), (20, 1)] L τ E Lq63 Tq63 Eu77 := Gr.wr Wu74 Pu77.1 (Or.inr f64)
  refine lv_dup hx hb dX4_init_110 rfl ?_
  obtain ⟨v78, ev78, tv78⟩ : ∃ v : Int32, Int32.ofInt (2) = v ∧ v.toInt = 2 := ⟨_, rfl, by decide +kernel⟩
  refine lv_iconst hx hb dX4_init_111 ev78 ?_
  obtain ⟨v79, ev79, tv79⟩ : ∃ v : Int32, (Int16.ofInt (200)).toInt32 = v ∧ v.toInt = 200 := ⟨_, rfl, by decide +kernel⟩
  refine lv_sipush hx hb dX4_init_112 ev79 ?_
  refine tr_iast Z.1 Z.2.2.2.1 Su77.1 Su77.2 Pq63.2.2.2.1 Pq63.2.2.2.2.1 rfl (by omega) (by omega) (by omega) (by omega) dX4_init_115 (fun Eu80 Hu80 ku80 wu80 iu80 Pu80 => ?_)
  have Su80 : NowG D cy (va_A (va_pl L _) sz) s Lq63 Tq63 Eu80 Hu80 ku80 := ⟨wu80, iu80⟩
  have hu80 : Eu80 a0 = .inr (3, [.int v1, .int v3, .int v5, .int v7, .int v9, .int v11, .int v13, .int v15, .ref q18, .ref q23, .ref q29, .ref q36, .ref q44, .ref q53, .null, .null]) := (Pu80.1 a0 (ne_ro tm65 Pq63.2.2.2.2.1 (by decide))).trans hu77
  have Wu80 : Gr a0 [(26, 1), (25, 1), (24, 1), (23, 1), (22, 1), (21, 1), (20, 1)] L τ E Lq63 Tq63 Eu80 := Gr.wr Wu77 Pu80.1 (Or.inr f64)
  refine lv_dup hx hb dX4_init_116 rfl ?_
  obtain ⟨v81, ev81, tv81⟩ : ∃ v : Int32, Int32.ofInt (3) = v ∧ v.toInt = 3 := ⟨_, rfl, by decide +kernel⟩
  refine lv_iconst hx hb dX4_init_117 ev81 ?_
  obtain ⟨v82, ev82, tv82⟩ : ∃ v : Int32, (Int8.ofInt (120)).toInt32 = v ∧ v.toInt = 120 := ⟨_, rfl, by decide +kernel⟩
  refine lv_bipush hx hb dX4_init_118 ev82 ?_
  refine tr_iast Z.1 Z.2.2.2.1 Su80.1 Su80.2 Pq63.2.2.2.1 Pq63.2.2.2.2.1 rfl (by omega) (by omega) (by omega) (by omega) dX4_init_120 (fun Eu83 Hu83 ku83 wu83 iu83 Pu83 => ?_)
  have Su83 : NowG D cy (va_A (va_pl L _) sz) s Lq63 Tq63 Eu83 Hu83 ku83 := ⟨wu83, iu83⟩
  have hu83 : Eu83 a0 = .inr (3, [.int v1, .int v3, .int v5, .int v7, .int v9, .int v11, .int v13, .int v15, .ref q18, .ref q23, .ref q29, .ref q36, .ref q44, .ref q53, .null, .null]) := (Pu83.1 a0 (ne_ro tm65 Pq63.2.2.2.2.1 (by decide))).trans hu80
  have Wu83 : Gr a0 [(26, 1), (25, 1), (24, 1), (23, 1), (22, 1), (21, 1), (20, 1)] L τ E Lq63 Tq63 Eu83 := Gr.wr Wu80 Pu83.1 (Or.inr f64)
  refine lv_dup hx hb dX4_init_121 rfl ?_
  obtain ⟨v84, ev84, tv84⟩ : ∃ v : Int32, Int32.ofInt (4) = v ∧ v.toInt = 4 := ⟨_, rfl, by decide +kernel⟩
  refine lv_iconst hx hb dX4_init_122 ev84 ?_
  obtain ⟨v85, ev85, tv85⟩ : ∃ v : Int32, (Int8.ofInt (20)).toInt32 = v ∧ v.toInt = 20 := ⟨_, rfl, by decide +kernel⟩
  refine lv_bipush hx hb dX4_init_123 ev85 ?_
  refine tr_iast Z.1 Z.2.2.2.1 Su83.1 Su83.2 Pq63.2.2.2.1 Pq63.2.2.2.2.1 rfl (by omega) (by omega) (by omega) (by omega) dX4_init_125 (fun Eu86 Hu86 ku86 wu86 iu86 Pu86 => ?_)
  have Su86 : NowG D cy (va_A (va_pl L _) sz) s Lq63 Tq63 Eu86 Hu86 ku86 := ⟨wu86, iu86⟩
  have hu86 : Eu86 a0 = .inr (3, [.int v1, .int v3, .int v5, .int v7, .int v9, .int v11, .int v13, .int v15, .ref q18, .ref q23, .ref q29, .ref q36, .ref q44, .ref q53, .null, .null]) := (Pu86.1 a0 (ne_ro tm65 Pq63.2.2.2.2.1 (by decide))).trans hu83
  have Wu86 : Gr a0 [(26, 1), (25, 1), (24, 1), (23, 1), (22, 1), (21, 1), (20, 1)] L τ E Lq63 Tq63 Eu86 := Gr.wr Wu83 Pu86.1 (Or.inr f64)
  refine tr_putR Z.1 Z.2.2.2.1 Su86 hm65 tm65 rfl rfl rfl hu86 rfl (fun _ h => List.mem_cons_of_mem _ (List.mem_append_right _ h)) tyX4_ok nmX4 14 (by decide) (Nat.le_of_ble_eq_true rfl) (Or.inr ⟨hnm, rfl, rfl⟩) (hts _ (List.mem_of_getElem? (i := 19) rfl)) dX4_init_126 rfl rfl (fun Eu87 Hu87 ku87 Su87 ou87 gu87 => ?_)
  have hu87 : Eu87 a0 = .inr (3, [.int v1, .int v3, .int v5, .int v7, .int v9, .int v11, .int v13, .int v15, .ref q18, .ref q23, .ref q29, .ref q36, .ref q44, .ref q53, .ref q63, .null]) := gu87
  have Wu87 : Gr a0 [(26, 1), (25, 1), (24, 1), (23, 1), (22, 1), (21, 1), (20, 1)] L τ E Lq63 Tq63 Eu87 := Gr.wr Wu86 ou87 (Or.inl rfl)
  refine lv_aload_n hx hb dX4_init_129 rfl (lv_at hl 0 rfl) ?_
  obtain ⟨v88, ev88, tv88⟩ : ∃ v : Int32, (Int8.ofInt (8)).toInt32 = v ∧ v.toInt = 8 := ⟨_, rfl, by decide +kernel⟩
  refine lv_bipush hx hb dX4_init_130 ev88 ?_
  refine tr_newq Z.1 Z.2.2.2.1 Z.2.2.2.2.2 Su87 (hts _ (List.mem_of_getElem? (i := 20) rfl)) hO.1 3 rfl 8 (by omega) (Nat.le_of_ble_eq_true rfl) (27, 1) rfl rfl (fun j n t h => by have h : some ((3 : Nat), (8 : Nat), (fun (_ : Nat) => ((3, 10, 0) : Ft))) = some (j, n, t) := h; cases h; exact ⟨rfl, rfl, fun _ => rfl⟩) (fun h => nomatch h) (Nat.le_of_ble_eq_true rfl) (Nat.le_of_ble_eq_true rfl) dX4_init_132 (fun Lq89 Tq89 Eq89 q89 Hq89 Sq89 Pq89 zq89 => ?_)
  have Wq89 : Gr a0 [(27, 1), (26, 1), (25, 1), (24, 1), (23, 1), (22, 1), (21, 1), (20, 1)] L τ E Lq89 Tq89 Eq89 := Gr.push Wu87 Pq89
  have f90 : q89 ∉ L := Gr.fresh Wu87 Pq89
  have Aq89 : Ab Lq89 Tq89 [] := Ab.push Aq63 Pq89 (by decide) (by decide)
  have eq89 : Eq89 a0 = .inr (3, [.int v1, .int v3, .int v5, .int v7, .int v9, .int v11, .int v13, .int v15, .ref q18, .ref q23, .ref q29, .ref q36, .ref q44, .ref q53, .ref q63, .null]) := (Pq89.2.2.1 a0 hm65).trans hu87
  have hm91 : a0 ∈ Lq89 := Pq89.1 _ hm65
  have tm91 : Tq89 a0 = (201, 1) := (Pq89.2.1 _ hm65).trans tm65
  have hm92 : q18 ∈ Lq89 := Pq89.1 _ hm66
  have tm92 : Tq89 q18 = (20, 1) := (Pq89.2.1 _ hm66).trans tm66
  have hm93 : q23 ∈ Lq89 := Pq89.1 _ hm67
  have tm93 : Tq89 q23 = (21, 1) := (Pq89.2.1 _ hm67).trans tm67
  have hm94 : q29 ∈ Lq89 := Pq89.1 _ hm68
  have tm94 : Tq89 q29 = (22, 1) := (Pq89.2.1 _ hm68).trans tm68
  have hm95 : q36 ∈ Lq89 := Pq89.1 _ hm69
  have tm95 : Tq89 q36 = (23, 1) := (Pq89.2.1 _ hm69).trans tm69
  have hm96 : q44 ∈ Lq89 := Pq89.1 _ hm70
  have tm96 : Tq89 q44 = (24, 1) := (Pq89.2.1 _ hm70).trans tm70
  have hm97 : q53 ∈ Lq89 := Pq89.1 _ hm71
  have tm97 : Tq89 q53 = (25, 1) := (Pq89.2.1 _ hm71).trans tm71
  have hm98 : q63 ∈ Lq89 := Pq89.1 _ Pq63.2.2.2.1
  have tm98 : Tq89 q63 = (26, 1) := (Pq89.2.1 _ Pq63.2.2.2.1).trans Pq63.2.2.2.2.1
  refine tr_putR Z.1 Z.2.2.2.1 Sq89 hm91 tm91 rfl rfl rfl eq89 rfl (fun _ h => List.mem_cons_of_mem _ (List.mem_append_right _ h)) tyX4_ok nmX4 15 (by decide) (Nat.le_of_ble_eq_true rfl) (Or.inr ⟨hnm, rfl, rfl⟩) (hts _ (List.mem_of_getElem? (i := 21) rfl)) dX4_init_135 rfl rfl (fun Eu99 Hu99 ku99 Su99 ou99 gu99 => ?_)
  have hu99 : Eu99 a0 = .inr (3, [.int v1, .int v3, .int v5, .int v7, .int v9, .int v11, .int v13, .int v15, .ref q18, .ref q23, .ref q29, .ref q36, .ref q44, .ref q53, .ref q63, .ref q89]) := gu99
  have Wu99 : Gr a0 [(27, 1), (26, 1), (25, 1), (24, 1), (23, 1), (22, 1), (21, 1), (20, 1)] L τ E Lq89 Tq89 Eu99 := Gr.wr Wq89 ou99 (Or.inl rfl)
  refine lv_aload_n hx hb dX4_init_138 rfl (lv_at hl 0 rfl) ?_
  refine tr_getR Z.1 Z.2.2.2.1 Su99 hm91 hu99 rfl (fun _ h => List.mem_cons_of_mem _ (List.mem_append_right _ h)) 8 (Nat.le_of_ble_eq_true rfl) rfl (hts _ (List.mem_of_getElem? (i := 13) rfl)) dX4_init_139 ?_
  obtain ⟨v100, ev100, tv100⟩ : ∃ v : Int32, Int32.ofInt (0) = v ∧ v.toInt = 0 := ⟨_, rfl, by decide +kernel⟩
  refine lv_iconst hx hb dX4_init_142 ev100 ?_
  obtain ⟨v101, ev101, tv101⟩ : ∃ v : Int32, (Int8.ofInt (12)).toInt32 = v ∧ v.toInt = 12 := ⟨_, rfl, by decide +kernel⟩
  refine lv_bipush hx hb dX4_init_143 ev101 ?_
  refine tr_iast Z.1 Z.2.2.2.1 Su99.1 Su99.2 hm92 tm92 rfl (by omega) (by omega) (by omega) (by omega) dX4_init_145 (fun Eu102 Hu102 ku102 wu102 iu102 Pu102 => ?_)
  have Su102 : NowG D cy (va_A (va_pl L _) sz) s Lq89 Tq89 Eu102 Hu102 ku102 := ⟨wu102, iu102⟩
  have hu102 : Eu102 a0 = .inr (3, [.int v1, .int v3, .int v5, .int v7, .int v9, .int v11, .int v13, .int v15, .ref q18, .ref q23, .ref q29, .ref q36, .ref q44, .ref q53, .ref q63, .ref q89]) := (Pu102.1 a0 (ne_ro tm91 tm92 (by decide))).trans hu99
  have Wu102 : Gr a0 [(27, 1), (26, 1), (25, 1), (24, 1), (23, 1), (22, 1), (21, 1), (20, 1)] L τ E Lq89 Tq89 Eu102 := Gr.wr Wu99 Pu102.1 (Or.inr f19)
  refine lv_aload_n hx hb dX4_init_146 rfl (lv_at hl 0 rfl) ?_
  refine tr_getR Z.1 Z.2.2.2.1 Su102 hm91 hu102 rfl (fun _ h => List.mem_cons_of_mem _ (List.mem_append_right _ h)) 9 (Nat.le_of_ble_eq_true rfl) rfl (hts _ (List.mem_of_getElem? (i := 14) rfl)) dX4_init_147 ?_
  obtain ⟨v103, ev103, tv103⟩ : ∃ v : Int32, Int32.ofInt (0) = v ∧ v.toInt = 0 := ⟨_, rfl, by decide +kernel⟩
  refine lv_iconst hx hb dX4_init_150 ev103 ?_
  obtain ⟨v104, ev104, tv104⟩ : ∃ v : Int32, (Int16.ofInt (2640)).toInt32 = v ∧ v.toInt = 2640 := ⟨_, rfl, by decide +kernel⟩
  refine lv_sipush hx hb dX4_init_151 ev104 ?_
  refine tr_iast Z.1 Z.2.2.2.1 Su102.1 Su102.2 hm93 tm93 rfl (by omega) (by omega) (by omega) (by omega) dX4_init_154 (fun Eu105 Hu105 ku105 wu105 iu105 Pu105 => ?_)
  have Su105 : NowG D cy (va_A (va_pl L _) sz) s Lq89 Tq89 Eu105 Hu105 ku105 := ⟨wu105, iu105⟩
  have hu105 : Eu105 a0 = .inr (3, [.int v1, .int v3, .int v5, .int v7, .int v9, .int v11, .int v13, .int v15, .ref q18, .ref q23, .ref q29, .ref q36, .ref q44, .ref q53, .ref q63, .ref q89]) := (Pu105.1 a0 (ne_ro tm91 tm93 (by decide))).trans hu102
  have Wu105 : Gr a0 [(27, 1), (26, 1), (25, 1), (24, 1), (23, 1), (22, 1), (21, 1), (20, 1)] L τ E Lq89 Tq89 Eu105 := Gr.wr Wu102 Pu105.1 (Or.inr f24)
  have IR : Inv TB cy Lq89 (upT Tq89 a0 (1, 1)) Eu105 := inv_role Su105.2 tm91 (by decide) (fun h => nomatch h) (fun ci ts h => by
      have h : some ((3 : Nat), ([(0, -2147483648, 2147483647), (0, -2147483648, 2147483647), (0, -2147483648, 2147483647), (0, -2147483648, 2147483647), (0, 0, 3), (0, -2147483648, 2147483647), (0, 0, 8), (0, 0, 8), (1, 20, 1), (1, 21, 1), (1, 22, 1), (1, 23, 1), (1, 24, 1), (1, 25, 1), (1, 26, 1), (1, 27, 1)] : List Ft)) = some (ci, ts) := h
      cases h
      exact okO_of hu105 ⟨⟨v1, rfl, by dsimp only; omega, by dsimp only; omega⟩, ⟨v3, rfl, by dsimp only; omega, by dsimp only; omega⟩, ⟨v5, rfl, by dsimp only; omega, by dsimp only; omega⟩, ⟨v7, rfl, by dsimp only; omega, by dsimp only; omega⟩, ⟨v9, rfl, by dsimp only; omega, by dsimp only; omega⟩, ⟨v11, rfl, by dsimp only; omega, by dsimp only; omega⟩, ⟨v13, rfl, by dsimp only; omega, by dsimp only; omega⟩, ⟨v15, rfl, by dsimp only; omega, by dsimp only; omega⟩, ⟨q18, rfl, hm92, (upT_ne (ne_ro tm92 tm91 (by decide))).trans tm92⟩, ⟨q23, rfl, hm93, (upT_ne (ne_ro tm93 tm91 (by decide))).trans tm93⟩, ⟨q29, rfl, hm94, (upT_ne (ne_ro tm94 tm91 (by decide))).trans tm94⟩, ⟨q36, rfl, hm95, (upT_ne (ne_ro tm95 tm91 (by decide))).trans tm95⟩, ⟨q44, rfl, hm96, (upT_ne (ne_ro tm96 tm91 (by decide))).trans tm96⟩, ⟨q53, rfl, hm97, (upT_ne (ne_ro tm97 tm91 (by decide))).trans tm97⟩, ⟨q63, rfl, hm98, (upT_ne (ne_ro tm98 tm91 (by decide))).trans tm98⟩, ⟨q89, rfl, Pq89.2.2.2.1, (upT_ne (ne_ro Pq89.2.2.2.2.1 tm91 (by decide))).trans Pq89.2.2.2.2.1⟩, trivial⟩) (fun _ _ _ h => nomatch h) (fun _ _ _ h => nomatch h)
  exact en_vG Z ⟨Su105.1, IR⟩ (post := fun _ T9 _ => T9 a0 = (1, 1)) (Gr.role Wu105 ha0) (upT_self _ _ _) dX4_init_155


set_option maxHeartbeats 4000000 in
set_option maxRecDepth 100000 in
theorem k_X4_init_2 (l : Launch) (D : va_G) (cy : Nat → ClassId) {L : List Nat} {τ : Nat → Ro} {E : Ec} (hI : Inv TB cy L τ E) {a0 : Nat} (ha0 : a0 ∈ L) (ta0 : τ a0 = (201, 2)) (he0 : E a0 = .inr (3, [.int 0, .int 0, .int 0, .int 0, .int 0, .int 0, .int 0, .int 0, .null, .null, .null, .null, .null, .null, .null, .null])) (hab0 : Ab L τ [(1, 2), (20, 2), (21, 2), (22, 2), (23, 2), (24, 2), (25, 2), (26, 2), (27, 2)]) : CtG l yX4_init wsX4_init { frames := 1, cells := 8, slots := 45, locals := 20 } D cy L τ E [.ref a0] a0 [(27, 2), (26, 2), (25, 2), (24, 2), (23, 2), (22, 2), (21, 2), (20, 2)] 8 45 (fun L' τ' E' => τ' a0 = (1, 2)) := by
  intro sz
  refine staG (cc := cX4_init) (maxL := 1) hI (by decide) rfl (Nat.le_of_ble_eq_true rfl) (fun p e s m args below meth c ls hsz hnm Z hO S0 hl => ?_)
  have hx := Z.1.1
  have hb := Z.1.2.1
  have hts := Z.1.2.2.2.2
  have hnm : meth.name = "<init>" := hnm
  have G0 : Gr a0 [] L τ E L τ E := Gr.refl
  have hl : lv_has ls 1 [(0, .ref a0)] := hl
  refine lv_aload_n hx hb dX4_init_0 rfl (lv_at hl 0 rfl) ?_
  refine tr_obj Z.1 hl.1 (hts _ (List.mem_of_getElem? (i := 1) rfl)) (hts _ (List.mem_of_getElem? (i := 2) rfl)) (hts _ (List.mem_of_getElem? (i := 3) rfl)) dX4_init_1 (Nat.le_of_ble_eq_true rfl) (Nat.le_of_ble_eq_true rfl) ?_
  refine lv_aload_n hx hb dX4_init_4 rfl (lv_at hl 0 rfl) ?_
  obtain ⟨v1, ev1, tv1⟩ : ∃ v : Int32, (Int16.ofInt (2600)).toInt32 = v ∧ v.toInt = 2600 := ⟨_, rfl, by decide +kernel⟩
  refine lv_sipush hx hb dX4_init_5 ev1 ?_
  refine tr_putR Z.1 Z.2.2.2.1 S0 ha0 ta0 rfl rfl rfl he0 rfl (fun _ h => List.mem_cons_of_mem _ (List.mem_append_right _ h)) tyX4_ok nmX4 0 (by decide) (Nat.le_of_ble_eq_true rfl) (Or.inl rfl) (hts _ (List.mem_of_getElem? (i := 4) rfl)) dX4_init_8 rfl rfl (fun Eu2 Hu2 ku2 Su2 ou2 gu2 => ?_)
  have hu2 : Eu2 a0 = .inr (3, [.int v1, .int 0, .int 0, .int 0, .int 0, .int 0, .int 0, .int 0, .null, .null, .null, .null, .null, .null, .null, .null]) := gu2
  have Wu2 : Gr a0 [] L τ E L τ Eu2 := Gr.wr G0 ou2 (Or.inl rfl)
  refine lv_aload_n hx hb dX4_init_11 rfl (lv_at hl 0 rfl) ?_
  obtain ⟨v3, ev3, tv3⟩ : ∃ v : Int32, (Int16.ofInt (900)).toInt32 = v ∧ v.toInt = 900 := ⟨_, rfl, by decide +kernel⟩
  refine lv_sipush hx hb dX4_init_12 ev3 ?_
  refine tr_putR Z.1 Z.2.2.2.1 Su2 ha0 ta0 rfl rfl rfl hu2 rfl (fun _ h => List.mem_cons_of_mem _ (List.mem_append_right _ h)) tyX4_ok nmX4 1 (by decide) (Nat.le_of_ble_eq_true rfl) (Or.inl rfl) (hts _ (List.mem_of_getElem? (i := 5) rfl)) dX4_init_15 rfl rfl (fun Eu4 Hu4 ku4 Su4 ou4 gu4 => ?_)
  have hu4 : Eu4 a0 = .inr (3, [.int v1, .int v3, .int 0, .int 0, .int 0, .int 0, .int 0, .int 0, .null, .null, .null, .null, .null, .null, .null, .null]) := gu4
  have Wu4 : Gr a0 [] L τ E L τ Eu4 := Gr.wr Wu2 ou4 (Or.inl rfl)
  refine lv_aload_n hx hb dX4_init_18 rfl (lv_at hl 0 rfl) ?_
  obtain ⟨v5, ev5, tv5⟩ : ∃ v : Int32, (Int16.ofInt (400)).toInt32 = v ∧ v.toInt = 400 := ⟨_, rfl, by decide +kernel⟩
  refine lv_sipush hx hb dX4_init_19 ev5 ?_
  refine tr_putR Z.1 Z.2.2.2.1 Su4 ha0 ta0 rfl rfl rfl hu4 rfl (fun _ h => List.mem_cons_of_mem _ (List.mem_append_right _ h)) tyX4_ok nmX4 2 (by decide) (Nat.le_of_ble_eq_true rfl) (Or.inl rfl) (hts _ (List.mem_of_getElem? (i := 6) rfl)) dX4_init_22 rfl rfl (fun Eu6 Hu6 ku6 Su6 ou6 gu6 => ?_)
  have hu6 : Eu6 a0 = .inr (3, [.int v1, .int v3, .int v5, .int 0, .int 0, .int 0, .int 0, .int 0, .null, .null, .null, .null, .null, .null, .null, .null]) := gu6
  have Wu6 : Gr a0 [] L τ E L τ Eu6 := Gr.wr Wu4 ou6 (Or.inl rfl)
  refine lv_aload_n hx hb dX4_init_25 rfl (lv_at hl 0 rfl) ?_
  obtain ⟨v7, ev7, tv7⟩ : ∃ v : Int32, (Int8.ofInt (60)).toInt32 = v ∧ v.toInt = 60 := ⟨_, rfl, by decide +kernel⟩
  refine lv_bipush hx hb dX4_init_26 ev7 ?_
  refine tr_putR Z.1 Z.2.2.2.1 Su6 ha0 ta0 rfl rfl rfl hu6 rfl (fun _ h => List.mem_cons_of_mem _ (List.mem_append_right _ h)) tyX4_ok nmX4 3 (by decide) (Nat.le_of_ble_eq_true rfl) (Or.inl rfl) (hts _ (List.mem_of_getElem? (i := 7) rfl)) dX4_init_28 rfl rfl (fun Eu8 Hu8 ku8 Su8 ou8 gu8 => ?_)
  have hu8 : Eu8 a0 = .inr (3, [.int v1, .int v3, .int v5, .int v7, .int 0, .int 0, .int 0, .int 0, .null, .null, .null, .null, .null, .null, .null, .null]) := gu8
  have Wu8 : Gr a0 [] L τ E L τ Eu8 := Gr.wr Wu6 ou8 (Or.inl rfl)
  refine lv_aload_n hx hb dX4_init_31 rfl (lv_at hl 0 rfl) ?_
  obtain ⟨v9, ev9, tv9⟩ : ∃ v : Int32, Int32.ofInt (1) = v ∧ v.toInt = 1 := ⟨_, rfl, by decide +kernel⟩
  refine lv_iconst hx hb dX4_init_32 ev9 ?_
  refine tr_putR Z.1 Z.2.2.2.1 Su8 ha0 ta0 rfl rfl rfl hu8 rfl (fun _ h => List.mem_cons_of_mem _ (List.mem_append_right _ h)) tyX4_ok nmX4 4 (by decide) (Nat.le_of_ble_eq_true rfl) (Or.inl rfl) (hts _ (List.mem_of_getElem? (i := 8) rfl)) dX4_init_33 rfl rfl (fun Eu10 Hu10 ku10 Su10 ou10 gu10 => ?_)
  have hu10 : Eu10 a0 = .inr (3, [.int v1, .int v3, .int v5, .int v7, .int v9, .int 0, .int 0, .int 0, .null, .null, .null, .null, .null, .null, .null, .null]) := gu10
  have Wu10 : Gr a0 [] L τ E L τ Eu10 := Gr.wr Wu8 ou10 (Or.inl rfl)
  refine lv_aload_n hx hb dX4_init_36 rfl (lv_at hl 0 rfl) ?_
  obtain ⟨v11, ev11, tv11⟩ : ∃ v : Int32, Int32.ofInt (0) = v ∧ v.toInt = 0 := ⟨_, rfl, by decide +kernel⟩
  refine lv_iconst hx hb dX4_init_37 ev11 ?_
  refine tr_putR Z.1 Z.2.2.2.1 Su10 ha0 ta0 rfl rfl rfl hu10 rfl (fun _ h => List.mem_cons_of_mem _ (List.mem_append_right _ h)) tyX4_ok nmX4 5 (by decide) (Nat.le_of_ble_eq_true rfl) (Or.inl rfl) (hts _ (List.mem_of_getElem? (i := 9) rfl)) dX4_init_38 rfl rfl (fun Eu12 Hu12 ku12 Su12 ou12 gu12 => ?_)
  have hu12 : Eu12 a0 = .inr (3, [.int v1, .int v3, .int v5, .int v7, .int v9, .int v11, .int 0, .int 0, .null, .null, .null, .null, .null, .null, .null, .null]) := gu12
  have Wu12 : Gr a0 [] L τ E L τ Eu12 := Gr.wr Wu10 ou12 (Or.inl rfl)
  refine lv_aload_n hx hb dX4_init_41 rfl (lv_at hl 0 rfl) ?_
  obtain ⟨v13, ev13, tv13⟩ : ∃ v : Int32, Int32.ofInt (0) = v ∧ v.toInt = 0 := ⟨_, rfl, by decide +kernel⟩
  refine lv_iconst hx hb dX4_init_42 ev13 ?_
  refine tr_putR Z.1 Z.2.2.2.1 Su12 ha0 ta0 rfl rfl rfl hu12 rfl (fun _ h => List.mem_cons_of_mem _ (List.mem_append_right _ h)) tyX4_ok nmX4 6 (by decide) (Nat.le_of_ble_eq_true rfl) (Or.inl rfl) (hts _ (List.mem_of_getElem? (i := 10) rfl)) dX4_init_43 rfl rfl (fun Eu14 Hu14 ku14 Su14 ou14 gu14 => ?_)
  have hu14 : Eu14 a0 = .inr (3, [.int v1, .int v3, .int v5, .int v7, .int v9, .int v11, .int v13, .int 0, .null, .null, .null, .null, .null, .null, .null, .null]) := gu14
  have Wu14 : Gr a0 [] L τ E L τ Eu14 := Gr.wr Wu12 ou14 (Or.inl rfl)
  refine lv_aload_n hx hb dX4_init_46 rfl (lv_at hl 0 rfl) ?_
  obtain ⟨v15, ev15, tv15⟩ : ∃ v : Int32, Int32.ofInt (0) = v ∧ v.toInt = 0 := ⟨_, rfl, by decide +kernel⟩
  refine lv_iconst hx hb dX4_init_47 ev15 ?_
  refine tr_putR Z.1 Z.2.2.2.1 Su14 ha0 ta0 rfl rfl rfl hu14 rfl (fun _ h => List.mem_cons_of_mem _ (List.mem_append_right _ h)) tyX4_ok nmX4 7 (by decide) (Nat.le_of_ble_eq_true rfl) (Or.inl rfl) (hts _ (List.mem_of_getElem? (i := 11) rfl)) dX4_init_48 rfl rfl (fun Eu16 Hu16 ku16 Su16 ou16 gu16 => ?_)
  have hu16 : Eu16 a0 = .inr (3, [.int v1, .int v3, .int v5, .int v7, .int v9, .int v11, .int v13, .int v15, .null, .null, .null, .null, .null, .null, .null, .null]) := gu16
  have Wu16 : Gr a0 [] L τ E L τ Eu16 := Gr.wr Wu14 ou16 (Or.inl rfl)
  refine lv_aload_n hx hb dX4_init_51 rfl (lv_at hl 0 rfl) ?_
  obtain ⟨v17, ev17, tv17⟩ : ∃ v : Int32, Int32.ofInt (3) = v ∧ v.toInt = 3 := ⟨_, rfl, by decide +kernel⟩
  refine lv_iconst hx hb dX4_init_52 ev17 ?_
  refine tr_newi Z.1 Z.2.2.2.1 Z.2.2.2.2.2 Su16 (hts _ (List.mem_of_getElem? (i := 12) rfl)) rfl 0 rfl 3 (by omega) (vc_ty _ rfl _) (Nat.le_of_ble_eq_true rfl) (20, 2) rfl rfl rfl (fun i => ⟨(by decide : (-2147483648 : Int) ≤ 0), (by decide : (0 : Int) ≤ 2147483647)⟩) (fun _ => Ab.ne hab0 (by decide)) (Nat.le_of_ble_eq_true rfl) (Nat.le_of_ble_eq_true rfl) dX4_init_53 (fun Lq18 Tq18 Eq18 q18 Hq18 Sq18 Pq18 => ?_)
  have Wq18 : Gr a0 [(20, 2)] L τ E Lq18 Tq18 Eq18 := Gr.push Wu16 Pq18
  have f19 : q18 ∉ L := Gr.fresh Wu16 Pq18
  have Aq18 : Ab Lq18 Tq18 [(1, 2), (21, 2), (22, 2), (23, 2), (24, 2), (25, 2), (26, 2), (27, 2)] := Ab.push hab0 Pq18 (by decide) (by decide)
  have eq18 : Eq18 a0 = .inr (3, [.int v1, .int v3, .int v5, .int v7, .int v9, .int v11, .int v13, .int v15, .null, .null, .null, .null, .null, .null, .null, .null]) := (Pq18.2.2.1 a0 ha0).trans hu16
  have hm20 : a0 ∈ Lq18 := Pq18.1 _ ha0
  have tm20 : Tq18 a0 = (201, 2) := (Pq18.2.1 _ ha0).trans ta0
  refine tr_putR Z.1 Z.2.2.2.1 Sq18 hm20 tm20 rfl rfl rfl eq18 rfl (fun _ h => List.mem_cons_of_mem _ (List.mem_append_right _ h)) tyX4_ok nmX4 8 (by decide) (Nat.le_of_ble_eq_true rfl) (Or.inr ⟨hnm, rfl, rfl⟩) (hts _ (List.mem_of_getElem? (i := 13) rfl)) dX4_init_55 rfl rfl (fun Eu21 Hu21 ku21 Su21 ou21 gu21 => ?_)
  have hu21 : Eu21 a0 = .inr (3, [.int v1, .int v3, .int v5, .int v7, .int v9, .int v11, .int v13, .int v15, .ref q18, .null, .null, .null, .null, .null, .null, .null]) := gu21
  have Wu21 : Gr a0 [(20, 2)] L τ E Lq18 Tq18 Eu21 := Gr.wr Wq18 ou21 (Or.inl rfl)
  refine lv_aload_n hx hb dX4_init_58 rfl (lv_at hl 0 rfl) ?_
  obtain ⟨v22, ev22, tv22⟩ : ∃ v : Int32, Int32.ofInt (3) = v ∧ v.toInt = 3 := ⟨_, rfl, by decide +kernel⟩
  refine lv_iconst hx hb dX4_init_59 ev22 ?_
  refine tr_newi Z.1 Z.2.2.2.1 Z.2.2.2.2.2 Su21 (hts _ (List.mem_of_getElem? (i := 12) rfl)) rfl 0 rfl 3 (by omega) (vc_ty _ rfl _) (Nat.le_of_ble_eq_true rfl) (21, 2) rfl rfl rfl (fun i => ⟨(by decide : (-2147483648 : Int) ≤ 0), (by decide : (0 : Int) ≤ 2147483647)⟩) (fun _ => Ab.ne Aq18 (by decide)) (Nat.le_of_ble_eq_true rfl) (Nat.le_of_ble_eq_true rfl) dX4_init_60 (fun Lq23 Tq23 Eq23 q23 Hq23 Sq23 Pq23 => ?_)
  have Wq23 : Gr a0 [(21, 2), (20, 2)] L τ E Lq23 Tq23 Eq23 := Gr.push Wu21 Pq23
  have f24 : q23 ∉ L := Gr.fresh Wu21 Pq23
  have Aq23 : Ab Lq23 Tq23 [(1, 2), (22, 2), (23, 2), (24, 2), (25, 2), (26, 2), (27, 2)] := Ab.push Aq18 Pq23 (by decide) (by decide)
  have eq23 : Eq23 a0 = .inr (3, [.int v1, .int v3, .int v5, .int v7, .int v9, .int v11, .int v13, .int v15, .ref q18, .null, .null, .null, .null, .null, .null, .null]) := (Pq23.2.2.1 a0 hm20).trans hu21
  have hm25 : a0 ∈ Lq23 := Pq23.1 _ hm20
  have tm25 : Tq23 a0 = (201, 2) := (Pq23.2.1 _ hm20).trans tm20
  have hm26 : q18 ∈ Lq23 := Pq23.1 _ Pq18.2.2.2.1
  have tm26 : Tq23 q18 = (20, 2) := (Pq23.2.1 _ Pq18.2.2.2.1).trans Pq18.2.2.2.2.1
  refine tr_putR Z.1 Z.2.2.2.1 Sq23 hm25 tm25 rfl rfl rfl eq23 rfl (fun _ h => List.mem_cons_of_mem _ (List.mem_append_right _ h)) tyX4_ok nmX4 9 (by decide) (Nat.le_of_ble_eq_true rfl) (Or.inr ⟨hnm, rfl, rfl⟩) (hts _ (List.mem_of_getElem? (i := 14) rfl)) dX4_init_62 rfl rfl (fun Eu27 Hu27 ku27 Su27 ou27 gu27 => ?_)
  have hu27 : Eu27 a0 = .inr (3, [.int v1, .int v3, .int v5, .int v7, .int v9, .int v11, .int v13, .int v15, .ref q18, .ref q23, .null, .null, .null, .null, .null, .null]) := gu27
  have Wu27 : Gr a0 [(21, 2), (20, 2)] L τ E Lq23 Tq23 Eu27 := Gr.wr Wq23 ou27 (Or.inl rfl)
  refine lv_aload_n hx hb dX4_init_65 rfl (lv_at hl 0 rfl) ?_
  obtain ⟨v28, ev28, tv28⟩ : ∃ v : Int32, Int32.ofInt (2) = v ∧ v.toInt = 2 := ⟨_, rfl, by decide +kernel⟩
  refine lv_iconst hx hb dX4_init_66 ev28 ?_
  refine tr_newi Z.1 Z.2.2.2.1 Z.2.2.2.2.2 Su27 (hts _ (List.mem_of_getElem? (i := 12) rfl)) rfl 0 rfl 2 (by omega) (vc_ty _ rfl _) (Nat.le_of_ble_eq_true rfl) (22, 2) rfl rfl rfl (fun i => ⟨(by decide : (-2147483648 : Int) ≤ 0), (by decide : (0 : Int) ≤ 2147483647)⟩) (fun _ => Ab.ne Aq23 (by decide)) (Nat.le_of_ble_eq_true rfl) (Nat.le_of_ble_eq_true rfl) dX4_init_67 (fun Lq29 Tq29 Eq29 q29 Hq29 Sq29 Pq29 => ?_)
  have Wq29 : Gr a0 [(22, 2), (21, 2), (20, 2)] L τ E Lq29 Tq29 Eq29 := Gr.push Wu27 Pq29
  have f30 : q29 ∉ L := Gr.fresh Wu27 Pq29
  have Aq29 : Ab Lq29 Tq29 [(1, 2), (23, 2), (24, 2), (25, 2), (26, 2), (27, 2)] := Ab.push Aq23 Pq29 (by decide) (by decide)
  have eq29 : Eq29 a0 = .inr (3, [.int v1, .int v3, .int v5, .int v7, .int v9, .int v11, .int v13, .int v15, .ref q18, .ref q23, .null, .null, .null, .null, .null, .null]) := (Pq29.2.2.1 a0 hm25).trans hu27
  have hm31 : a0 ∈ Lq29 := Pq29.1 _ hm25
  have tm31 : Tq29 a0 = (201, 2) := (Pq29.2.1 _ hm25).trans tm25
  have hm32 : q18 ∈ Lq29 := Pq29.1 _ hm26
  have tm32 : Tq29 q18 = (20, 2) := (Pq29.2.1 _ hm26).trans tm26
  have hm33 : q23 ∈ Lq29 := Pq29.1 _ Pq23.2.2.2.1
  have tm33 : Tq29 q23 = (21, 2) := (Pq29.2.1 _ Pq23.2.2.2.1).trans Pq23.2.2.2.2.1
  refine tr_putR Z.1 Z.2.2.2.1 Sq29 hm31 tm31 rfl rfl rfl eq29 rfl (fun _ h => List.mem_cons_of_mem _ (List.mem_append_right _ h)) tyX4_ok nmX4 10 (by decide) (Nat.le_of_ble_eq_true rfl) (Or.inr ⟨hnm, rfl, rfl⟩) (hts _ (List.mem_of_getElem? (i := 15) rfl)) dX4_init_69 rfl rfl (fun Eu34 Hu34 ku34 Su34 ou34 gu34 => ?_)
  have hu34 : Eu34 a0 = .inr (3, [.int v1, .int v3, .int v5, .int v7, .int v9, .int v11, .int v13, .int v15, .ref q18, .ref q23, .ref q29, .null, .null, .null, .null, .null]) := gu34
  have Wu34 : Gr a0 [(22, 2), (21, 2), (20, 2)] L τ E Lq29 Tq29 Eu34 := Gr.wr Wq29 ou34 (Or.inl rfl)
  refine lv_aload_n hx hb dX4_init_72 rfl (lv_at hl 0 rfl) ?_
  obtain ⟨v35, ev35, tv35⟩ : ∃ v : Int32, (Int8.ofInt (8)).toInt32 = v ∧ v.toInt = 8 := ⟨_, rfl, by decide +kernel⟩
  refine lv_bipush hx hb dX4_init_73 ev35 ?_
  refine tr_newi Z.1 Z.2.2.2.1 Z.2.2.2.2.2 Su34 (hts _ (List.mem_of_getElem? (i := 12) rfl)) rfl 0 rfl 8 (by omega) (vc_ty _ rfl _) (Nat.le_of_ble_eq_true rfl) (23, 2) rfl rfl rfl (fun i => ⟨(by decide : (-2147483648 : Int) ≤ 0), (by decide : (0 : Int) ≤ 2147483647)⟩) (fun _ => Ab.ne Aq29 (by decide)) (Nat.le_of_ble_eq_true rfl) (Nat.le_of_ble_eq_true rfl) dX4_init_75 (fun Lq36 Tq36 Eq36 q36 Hq36 Sq36 Pq36 => ?_)
  have Wq36 : Gr a0 [(23, 2), (22, 2), (21, 2), (20, 2)] L τ E Lq36 Tq36 Eq36 := Gr.push Wu34 Pq36
  have f37 : q36 ∉ L := Gr.fresh Wu34 Pq36
  have Aq36 : Ab Lq36 Tq36 [(1, 2), (24, 2), (25, 2), (26, 2), (27, 2)] := Ab.push Aq29 Pq36 (by decide) (by decide)
  have eq36 : Eq36 a0 = .inr (3, [.int v1, .int v3, .int v5, .int v7, .int v9, .int v11, .int v13, .int v15, .ref q18, .ref q23, .ref q29, .null, .null, .null, .null, .null]) := (Pq36.2.2.1 a0 hm31).trans hu34
  have hm38 : a0 ∈ Lq36 := Pq36.1 _ hm31
  have tm38 : Tq36 a0 = (201, 2) := (Pq36.2.1 _ hm31).trans tm31
  have hm39 : q18 ∈ Lq36 := Pq36.1 _ hm32
  have tm39 : Tq36 q18 = (20, 2) := (Pq36.2.1 _ hm32).trans tm32
  have hm40 : q23 ∈ Lq36 := Pq36.1 _ hm33
  have tm40 : Tq36 q23 = (21, 2) := (Pq36.2.1 _ hm33).trans tm33
  have hm41 : q29 ∈ Lq36 := Pq36.1 _ Pq29.2.2.2.1
  have tm41 : Tq36 q29 = (22, 2) := (Pq36.2.1 _ Pq29.2.2.2.1).trans Pq29.2.2.2.2.1
  refine tr_putR Z.1 Z.2.2.2.1 Sq36 hm38 tm38 rfl rfl rfl eq36 rfl (fun _ h => List.mem_cons_of_mem _ (List.mem_append_right _ h)) tyX4_ok nmX4 11 (by decide) (Nat.le_of_ble_eq_true rfl) (Or.inr ⟨hnm, rfl, rfl⟩) (hts _ (List.mem_of_getElem? (i := 16) rfl)) dX4_init_77 rfl rfl (fun Eu42 Hu42 ku42 Su42 ou42 gu42 => ?_)
  have hu42 : Eu42 a0 = .inr (3, [.int v1, .int v3, .int v5, .int v7, .int v9, .int v11, .int v13, .int v15, .ref q18, .ref q23, .ref q29, .ref q36, .null, .null, .null, .null]) := gu42
  have Wu42 : Gr a0 [(23, 2), (22, 2), (21, 2), (20, 2)] L τ E Lq36 Tq36 Eu42 := Gr.wr Wq36 ou42 (Or.inl rfl)
  refine lv_aload_n hx hb dX4_init_80 rfl (lv_at hl 0 rfl) ?_
  obtain ⟨v43, ev43, tv43⟩ : ∃ v : Int32, (Int8.ofInt (8)).toInt32 = v ∧ v.toInt = 8 := ⟨_, rfl, by decide +kernel⟩
  refine lv_bipush hx hb dX4_init_81 ev43 ?_
  refine tr_newi Z.1 Z.2.2.2.1 Z.2.2.2.2.2 Su42 (hts _ (List.mem_of_getElem? (i := 12) rfl)) rfl 0 rfl 8 (by omega) (vc_ty _ rfl _) (Nat.le_of_ble_eq_true rfl) (24, 2) rfl rfl rfl (fun i => ⟨(by decide : (-2147483648 : Int) ≤ 0), (by decide : (0 : Int) ≤ 2147483647)⟩) (fun _ => Ab.ne Aq36 (by decide)) (Nat.le_of_ble_eq_true rfl) (Nat.le_of_ble_eq_true rfl) dX4_init_83 (fun Lq44 Tq44 Eq44 q44 Hq44 Sq44 Pq44 => ?_)
  have Wq44 : Gr a0 [(24, 2), (23, 2), (22, 2), (21, 2), (20, 2)] L τ E Lq44 Tq44 Eq44 := Gr.push Wu42 Pq44
  have f45 : q44 ∉ L := Gr.fresh Wu42 Pq44
  have Aq44 : Ab Lq44 Tq44 [(1, 2), (25, 2), (26, 2), (27, 2)] := Ab.push Aq36 Pq44 (by decide) (by decide)
  have eq44 : Eq44 a0 = .inr (3, [.int v1, .int v3, .int v5, .int v7, .int v9, .int v11, .int v13, .int v15, .ref q18, .ref q23, .ref q29, .ref q36, .null, .null, .null, .null]) := (Pq44.2.2.1 a0 hm38).trans hu42
  have hm46 : a0 ∈ Lq44 := Pq44.1 _ hm38
  have tm46 : Tq44 a0 = (201, 2) := (Pq44.2.1 _ hm38).trans tm38
  have hm47 : q18 ∈ Lq44 := Pq44.1 _ hm39
  have tm47 : Tq44 q18 = (20, 2) := (Pq44.2.1 _ hm39).trans tm39
  have hm48 : q23 ∈ Lq44 := Pq44.1 _ hm40
  have tm48 : Tq44 q23 = (21, 2) := (Pq44.2.1 _ hm40).trans tm40
  have hm49 : q29 ∈ Lq44 := Pq44.1 _ hm41
  have tm49 : Tq44 q29 = (22, 2) := (Pq44.2.1 _ hm41).trans tm41
  have hm50 : q36 ∈ Lq44 := Pq44.1 _ Pq36.2.2.2.1
  have tm50 : Tq44 q36 = (23, 2) := (Pq44.2.1 _ Pq36.2.2.2.1).trans Pq36.2.2.2.2.1
  refine tr_putR Z.1 Z.2.2.2.1 Sq44 hm46 tm46 rfl rfl rfl eq44 rfl (fun _ h => List.mem_cons_of_mem _ (List.mem_append_right _ h)) tyX4_ok nmX4 12 (by decide) (Nat.le_of_ble_eq_true rfl) (Or.inr ⟨hnm, rfl, rfl⟩) (hts _ (List.mem_of_getElem? (i := 17) rfl)) dX4_init_85 rfl rfl (fun Eu51 Hu51 ku51 Su51 ou51 gu51 => ?_)
  have hu51 : Eu51 a0 = .inr (3, [.int v1, .int v3, .int v5, .int v7, .int v9, .int v11, .int v13, .int v15, .ref q18, .ref q23, .ref q29, .ref q36, .ref q44, .null, .null, .null]) := gu51
  have Wu51 : Gr a0 [(24, 2), (23, 2), (22, 2), (21, 2), (20, 2)] L τ E Lq44 Tq44 Eu51 := Gr.wr Wq44 ou51 (Or.inl rfl)
  refine lv_aload_n hx hb dX4_init_88 rfl (lv_at hl 0 rfl) ?_
  obtain ⟨v52, ev52, tv52⟩ : ∃ v : Int32, (Int8.ofInt (8)).toInt32 = v ∧ v.toInt = 8 := ⟨_, rfl, by decide +kernel⟩
  refine lv_bipush hx hb dX4_init_89 ev52 ?_
  refine tr_newi Z.1 Z.2.2.2.1 Z.2.2.2.2.2 Su51 (hts _ (List.mem_of_getElem? (i := 12) rfl)) rfl 0 rfl 8 (by omega) (vc_ty _ rfl _) (Nat.le_of_ble_eq_true rfl) (25, 2) rfl rfl rfl (fun i => ⟨(by decide : (-2147483648 : Int) ≤ 0), (by decide : (0 : Int) ≤ 2147483647)⟩) (fun _ => Ab.ne Aq44 (by decide)) (Nat.le_of_ble_eq_true rfl) (Nat.le_of_ble_eq_true rfl) dX4_init_91 (fun Lq53 Tq53 Eq53 q53 Hq53 Sq53 Pq53 => ?_)
  have Wq53 : Gr a0 [(25, 2), (24, 2), (23, 2), (22, 2), (21, 2), (20, 2)] L τ E Lq53 Tq53 Eq53 := Gr.push Wu51 Pq53
  have f54 : q53 ∉ L := Gr.fresh Wu51 Pq53
  have Aq53 : Ab Lq53 Tq53 [(1, 2), (26, 2), (27, 2)] := Ab.push Aq44 Pq53 (by decide) (by decide)
  have eq53 : Eq53 a0 = .inr (3, [.int v1, .int v3, .int v5, .int v7, .int v9, .int v11, .int v13, .int v15, .ref q18, .ref q23, .ref q29, .ref q36, .ref q44, .null, .null, .null]) := (Pq53.2.2.1 a0 hm46).trans hu51
  have hm55 : a0 ∈ Lq53 := Pq53.1 _ hm46
  have tm55 : Tq53 a0 = (201, 2) := (Pq53.2.1 _ hm46).trans tm46
  have hm56 : q18 ∈ Lq53 := Pq53.1 _ hm47
  have tm56 : Tq53 q18 = (20, 2) := (Pq53.2.1 _ hm47).trans tm47
  have hm57 : q23 ∈ Lq53 := Pq53.1 _ hm48
  have tm57 : Tq53 q23 = (21, 2) := (Pq53.2.1 _ hm48).trans tm48
  have hm58 : q29 ∈ Lq53 := Pq53.1 _ hm49
  have tm58 : Tq53 q29 = (22, 2) := (Pq53.2.1 _ hm49).trans tm49
  have hm59 : q36 ∈ Lq53 := Pq53.1 _ hm50
  have tm59 : Tq53 q36 = (23, 2) := (Pq53.2.1 _ hm50).trans tm50
  have hm60 : q44 ∈ Lq53 := Pq53.1 _ Pq44.2.2.2.1
  have tm60 : Tq53 q44 = (24, 2) := (Pq53.2.1 _ Pq44.2.2.2.1).trans Pq44.2.2.2.2.1
  refine tr_putR Z.1 Z.2.2.2.1 Sq53 hm55 tm55 rfl rfl rfl eq53 rfl (fun _ h => List.mem_cons_of_mem _ (List.mem_append_right _ h)) tyX4_ok nmX4 13 (by decide) (Nat.le_of_ble_eq_true rfl) (Or.inr ⟨hnm, rfl, rfl⟩) (hts _ (List.mem_of_getElem? (i := 18) rfl)) dX4_init_93 rfl rfl (fun Eu61 Hu61 ku61 Su61 ou61 gu61 => ?_)
  have hu61 : Eu61 a0 = .inr (3, [.int v1, .int v3, .int v5, .int v7, .int v9, .int v11, .int v13, .int v15, .ref q18, .ref q23, .ref q29, .ref q36, .ref q44, .ref q53, .null, .null]) := gu61
  have Wu61 : Gr a0 [(25, 2), (24, 2), (23, 2), (22, 2), (21, 2), (20, 2)] L τ E Lq53 Tq53 Eu61 := Gr.wr Wq53 ou61 (Or.inl rfl)
  refine lv_aload_n hx hb dX4_init_96 rfl (lv_at hl 0 rfl) ?_
  obtain ⟨v62, ev62, tv62⟩ : ∃ v : Int32, Int32.ofInt (5) = v ∧ v.toInt = 5 := ⟨_, rfl, by decide +kernel⟩
  refine lv_iconst hx hb dX4_init_97 ev62 ?_
  refine tr_newi Z.1 Z.2.2.2.1 Z.2.2.2.2.2 Su61 (hts _ (List.mem_of_getElem? (i := 12) rfl)) rfl 0 rfl 5 (by omega) (vc_ty _ rfl _) (Nat.le_of_ble_eq_true rfl) (26, 2) rfl rfl rfl (fun i => ⟨(by decide : (-2147483648 : Int) ≤ 0), (by decide : (0 : Int) ≤ 2147483647)⟩) (fun _ => Ab.ne Aq53 (by decide)) (Nat.le_of_ble_eq_true rfl) (Nat.le_of_ble_eq_true rfl) dX4_init_98 (fun Lq63 Tq63 Eq63 q63 Hq63 Sq63 Pq63 => ?_)
  have Wq63 : Gr a0 [(26, 2), (25, 2), (24, 2), (23, 2), (22, 2), (21, 2), (20, 2)] L τ E Lq63 Tq63 Eq63 := Gr.push Wu61 Pq63
  have f64 : q63 ∉ L := Gr.fresh Wu61 Pq63
  have Aq63 : Ab Lq63 Tq63 [(1, 2), (27, 2)] := Ab.push Aq53 Pq63 (by decide) (by decide)
  have eq63 : Eq63 a0 = .inr (3, [.int v1, .int v3, .int v5, .int v7, .int v9, .int v11, .int v13, .int v15, .ref q18, .ref q23, .ref q29, .ref q36, .ref q44, .ref q53, .null, .null]) := (Pq63.2.2.1 a0 hm55).trans hu61
  have hm65 : a0 ∈ Lq63 := Pq63.1 _ hm55
  have tm65 : Tq63 a0 = (201, 2) := (Pq63.2.1 _ hm55).trans tm55
  have hm66 : q18 ∈ Lq63 := Pq63.1 _ hm56
  have tm66 : Tq63 q18 = (20, 2) := (Pq63.2.1 _ hm56).trans tm56
  have hm67 : q23 ∈ Lq63 := Pq63.1 _ hm57
  have tm67 : Tq63 q23 = (21, 2) := (Pq63.2.1 _ hm57).trans tm57
  have hm68 : q29 ∈ Lq63 := Pq63.1 _ hm58
  have tm68 : Tq63 q29 = (22, 2) := (Pq63.2.1 _ hm58).trans tm58
  have hm69 : q36 ∈ Lq63 := Pq63.1 _ hm59
  have tm69 : Tq63 q36 = (23, 2) := (Pq63.2.1 _ hm59).trans tm59
  have hm70 : q44 ∈ Lq63 := Pq63.1 _ hm60
  have tm70 : Tq63 q44 = (24, 2) := (Pq63.2.1 _ hm60).trans tm60
  have hm71 : q53 ∈ Lq63 := Pq63.1 _ Pq53.2.2.2.1
  have tm71 : Tq63 q53 = (25, 2) := (Pq63.2.1 _ Pq53.2.2.2.1).trans Pq53.2.2.2.2.1
  refine lv_dup hx hb dX4_init_100 rfl ?_
  obtain ⟨v72, ev72, tv72⟩ : ∃ v : Int32, Int32.ofInt (0) = v ∧ v.toInt = 0 := ⟨_, rfl, by decide +kernel⟩
  refine lv_iconst hx hb dX4_init_101 ev72 ?_
  obtain ⟨v73, ev73, tv73⟩ : ∃ v : Int32, (Int8.ofInt (50)).toInt32 = v ∧ v.toInt = 50 := ⟨_, rfl, by decide +kernel⟩
  refine lv_bipush hx hb dX4_init_102 ev73 ?_
  refine tr_iast Z.1 Z.2.2.2.1 Sq63.1 Sq63.2 Pq63.2.2.2.1 Pq63.2.2.2.2.1 rfl (by omega) (by omega) (by omega) (by omega) dX4_init_104 (fun Eu74 Hu74 ku74 wu74 iu74 Pu74 => ?_)
  have Su74 : NowG D cy (va_A (va_pl L _) sz) s Lq63 Tq63 Eu74 Hu74 ku74 := ⟨wu74, iu74⟩
  have hu74 : Eu74 a0 = .inr (3, [.int v1, .int v3, .int v5, .int v7, .int v9, .int v11, .int v13, .int v15, .ref q18, .ref q23, .ref q29, .ref q36, .ref q44, .ref q53, .null, .null]) := (Pu74.1 a0 (ne_ro tm65 Pq63.2.2.2.2.1 (by decide))).trans eq63
  have Wu74 : Gr a0 [(26, 2), (25, 2), (24, 2), (23, 2), (22, 2), (21, 2), (20, 2)] L τ E Lq63 Tq63 Eu74 := Gr.wr Wq63 Pu74.1 (Or.inr f64)
  refine lv_dup hx hb dX4_init_105 rfl ?_
  obtain ⟨v75, ev75, tv75⟩ : ∃ v : Int32, Int32.ofInt (1) = v ∧ v.toInt = 1 := ⟨_, rfl, by decide +kernel⟩
  refine lv_iconst hx hb dX4_init_106 ev75 ?_
  obtain ⟨v76, ev76, tv76⟩ : ∃ v : Int32, (Int8.ofInt (80)).toInt32 = v ∧ v.toInt = 80 := ⟨_, rfl, by decide +kernel⟩
  refine lv_bipush hx hb dX4_init_107 ev76 ?_
  refine tr_iast Z.1 Z.2.2.2.1 Su74.1 Su74.2 Pq63.2.2.2.1 Pq63.2.2.2.2.1 rfl (by omega) (by omega) (by omega) (by omega) dX4_init_109 (fun Eu77 Hu77 ku77 wu77 iu77 Pu77 => ?_)
  have Su77 : NowG D cy (va_A (va_pl L _) sz) s Lq63 Tq63 Eu77 Hu77 ku77 := ⟨wu77, iu77⟩
  have hu77 : Eu77 a0 = .inr (3, [.int v1, .int v3, .int v5, .int v7, .int v9, .int v11, .int v13, .int v15, .ref q18, .ref q23, .ref q29, .ref q36, .ref q44, .ref q53, .null, .null]) := (Pu77.1 a0 (ne_ro tm65 Pq63.2.2.2.2.1 (by decide))).trans hu74
  have Wu77 : Gr a0 [(26, 2), (25, 2), (24, 2), (23, 2), (22, 2), (21, 2), (20, 2)] L τ E Lq63 Tq63 Eu77 := Gr.wr Wu74 Pu77.1 (Or.inr f64)
  refine lv_dup hx hb dX4_init_110 rfl ?_
  obtain ⟨v78, ev78, tv78⟩ : ∃ v : Int32, Int32.ofInt (2) = v ∧ v.toInt = 2 := ⟨_, rfl, by decide +kernel⟩
  refine lv_iconst hx hb dX4_init_111 ev78 ?_
  obtain ⟨v79, ev79, tv79⟩ : ∃ v : Int32, (Int16.ofInt (200)).toInt32 = v ∧ v.toInt = 200 := ⟨_, rfl, by decide +kernel⟩
  refine lv_sipush hx hb dX4_init_112 ev79 ?_
  refine tr_iast Z.1 Z.2.2.2.1 Su77.1 Su77.2 Pq63.2.2.2.1 Pq63.2.2.2.2.1 rfl (by omega) (by omega) (by omega) (by omega) dX4_init_115 (fun Eu80 Hu80 ku80 wu80 iu80 Pu80 => ?_)
  have Su80 : NowG D cy (va_A (va_pl L _) sz) s Lq63 Tq63 Eu80 Hu80 ku80 := ⟨wu80, iu80⟩
  have hu80 : Eu80 a0 = .inr (3, [.int v1, .int v3, .int v5, .int v7, .int v9, .int v11, .int v13, .int v15, .ref q18, .ref q23, .ref q29, .ref q36, .ref q44, .ref q53, .null, .null]) := (Pu80.1 a0 (ne_ro tm65 Pq63.2.2.2.2.1 (by decide))).trans hu77
  have Wu80 : Gr a0 [(26, 2), (25, 2), (24, 2), (23, 2), (22, 2), (21, 2), (20, 2)] L τ E Lq63 Tq63 Eu80 := Gr.wr Wu77 Pu80.1 (Or.inr f64)
  refine lv_dup hx hb dX4_init_116 rfl ?_
  obtain ⟨v81, ev81, tv81⟩ : ∃ v : Int32, Int32.ofInt (3) = v ∧ v.toInt = 3 := ⟨_, rfl, by decide +kernel⟩
  refine lv_iconst hx hb dX4_init_117 ev81 ?_
  obtain ⟨v82, ev82, tv82⟩ : ∃ v : Int32, (Int8.ofInt (120)).toInt32 = v ∧ v.toInt = 120 := ⟨_, rfl, by decide +kernel⟩
  refine lv_bipush hx hb dX4_init_118 ev82 ?_
  refine tr_iast Z.1 Z.2.2.2.1 Su80.1 Su80.2 Pq63.2.2.2.1 Pq63.2.2.2.2.1 rfl (by omega) (by omega) (by omega) (by omega) dX4_init_120 (fun Eu83 Hu83 ku83 wu83 iu83 Pu83 => ?_)
  have Su83 : NowG D cy (va_A (va_pl L _) sz) s Lq63 Tq63 Eu83 Hu83 ku83 := ⟨wu83, iu83⟩
  have hu83 : Eu83 a0 = .inr (3, [.int v1, .int v3, .int v5, .int v7, .int v9, .int v11, .int v13, .int v15, .ref q18, .ref q23, .ref q29, .ref q36, .ref q44, .ref q53, .null, .null]) := (Pu83.1 a0 (ne_ro tm65 Pq63.2.2.2.2.1 (by decide))).trans hu80
  have Wu83 : Gr a0 [(26, 2), (25, 2), (24, 2), (23, 2), (22, 2), (21, 2), (20, 2)] L τ E Lq63 Tq63 Eu83 := Gr.wr Wu80 Pu83.1 (Or.inr f64)
  refine lv_dup hx hb dX4_init_121 rfl ?_
  obtain ⟨v84, ev84, tv84⟩ : ∃ v : Int32, Int32.ofInt (4) = v ∧ v.toInt = 4 := ⟨_, rfl, by decide +kernel⟩
  refine lv_iconst hx hb dX4_init_122 ev84 ?_
  obtain ⟨v85, ev85, tv85⟩ : ∃ v : Int32, (Int8.ofInt (20)).toInt32 = v ∧ v.toInt = 20 := ⟨_, rfl, by decide +kernel⟩
  refine lv_bipush hx hb dX4_init_123 ev85 ?_
  refine tr_iast Z.1 Z.2.2.2.1 Su83.1 Su83.2 Pq63.2.2.2.1 Pq63.2.2.2.2.1 rfl (by omega) (by omega) (by omega) (by omega) dX4_init_125 (fun Eu86 Hu86 ku86 wu86 iu86 Pu86 => ?_)
  have Su86 : NowG D cy (va_A (va_pl L _) sz) s Lq63 Tq63 Eu86 Hu86 ku86 := ⟨wu86, iu86⟩
  have hu86 : Eu86 a0 = .inr (3, [.int v1, .int v3, .int v5, .int v7, .int v9, .int v11, .int v13, .int v15, .ref q18, .ref q23, .ref q29, .ref q36, .ref q44, .ref q53, .null, .null]) := (Pu86.1 a0 (ne_ro tm65 Pq63.2.2.2.2.1 (by decide))).trans hu83
  have Wu86 : Gr a0 [(26, 2), (25, 2), (24, 2), (23, 2), (22, 2), (21, 2), (20, 2)] L τ E Lq63 Tq63 Eu86 := Gr.wr Wu83 Pu86.1 (Or.inr f64)
  refine tr_putR Z.1 Z.2.2.2.1 Su86 hm65 tm65 rfl rfl rfl hu86 rfl (fun _ h => List.mem_cons_of_mem _ (List.mem_append_right _ h)) tyX4_ok nmX4 14 (by decide) (Nat.le_of_ble_eq_true rfl) (Or.inr ⟨hnm, rfl, rfl⟩) (hts _ (List.mem_of_getElem? (i := 19) rfl)) dX4_init_126 rfl rfl (fun Eu87 Hu87 ku87 Su87 ou87 gu87 => ?_)
  have hu87 : Eu87 a0 = .inr (3, [.int v1, .int v3, .int v5, .int v7, .int v9, .int v11, .int v13, .int v15, .ref q18, .ref q23, .ref q29, .ref q36, .ref q44, .ref q53, .ref q63, .null]) := gu87
  have Wu87 : Gr a0 [(26, 2), (25, 2), (24, 2), (23, 2), (22, 2), (21, 2), (20, 2)] L τ E Lq63 Tq63 Eu87 := Gr.wr Wu86 ou87 (Or.inl rfl)
  refine lv_aload_n hx hb dX4_init_129 rfl (lv_at hl 0 rfl) ?_
  obtain ⟨v88, ev88, tv88⟩ : ∃ v : Int32, (Int8.ofInt (8)).toInt32 = v ∧ v.toInt = 8 := ⟨_, rfl, by decide +kernel⟩
  refine lv_bipush hx hb dX4_init_130 ev88 ?_
  refine tr_newq Z.1 Z.2.2.2.1 Z.2.2.2.2.2 Su87 (hts _ (List.mem_of_getElem? (i := 20) rfl)) hO.1 3 rfl 8 (by omega) (Nat.le_of_ble_eq_true rfl) (27, 2) rfl rfl (fun j n t h => by have h : some ((3 : Nat), (8 : Nat), (fun (_ : Nat) => ((3, 10, 0) : Ft))) = some (j, n, t) := h; cases h; exact ⟨rfl, rfl, fun _ => rfl⟩) (fun _ => Ab.ne Aq63 (by decide)) (Nat.le_of_ble_eq_true rfl) (Nat.le_of_ble_eq_true rfl) dX4_init_132 (fun Lq89 Tq89 Eq89 q89 Hq89 Sq89 Pq89 zq89 => ?_)
  have Wq89 : Gr a0 [(27, 2), (26, 2), (25, 2), (24, 2), (23, 2), (22, 2), (21, 2), (20, 2)] L τ E Lq89 Tq89 Eq89 := Gr.push Wu87 Pq89
  have f90 : q89 ∉ L := Gr.fresh Wu87 Pq89
  have Aq89 : Ab Lq89 Tq89 [(1, 2)] := Ab.push Aq63 Pq89 (by decide) (by decide)
  have eq89 : Eq89 a0 = .inr (3, [.int v1, .int v3, .int v5, .int v7, .int v9, .int v11, .int v13, .int v15, .ref q18, .ref q23, .ref q29, .ref q36, .ref q44, .ref q53, .ref q63, .null]) := (Pq89.2.2.1 a0 hm65).trans hu87
  have hm91 : a0 ∈ Lq89 := Pq89.1 _ hm65
  have tm91 : Tq89 a0 = (201, 2) := (Pq89.2.1 _ hm65).trans tm65
  have hm92 : q18 ∈ Lq89 := Pq89.1 _ hm66
  have tm92 : Tq89 q18 = (20, 2) := (Pq89.2.1 _ hm66).trans tm66
  have hm93 : q23 ∈ Lq89 := Pq89.1 _ hm67
  have tm93 : Tq89 q23 = (21, 2) := (Pq89.2.1 _ hm67).trans tm67
  have hm94 : q29 ∈ Lq89 := Pq89.1 _ hm68
  have tm94 : Tq89 q29 = (22, 2) := (Pq89.2.1 _ hm68).trans tm68
  have hm95 : q36 ∈ Lq89 := Pq89.1 _ hm69
  have tm95 : Tq89 q36 = (23, 2) := (Pq89.2.1 _ hm69).trans tm69
  have hm96 : q44 ∈ Lq89 := Pq89.1 _ hm70
  have tm96 : Tq89 q44 = (24, 2) := (Pq89.2.1 _ hm70).trans tm70
  have hm97 : q53 ∈ Lq89 := Pq89.1 _ hm71
  have tm97 : Tq89 q53 = (25, 2) := (Pq89.2.1 _ hm71).trans tm71
  have hm98 : q63 ∈ Lq89 := Pq89.1 _ Pq63.2.2.2.1
  have tm98 : Tq89 q63 = (26, 2) := (Pq89.2.1 _ Pq63.2.2.2.1).trans Pq63.2.2.2.2.1
  refine tr_putR Z.1 Z.2.2.2.1 Sq89 hm91 tm91 rfl rfl rfl eq89 rfl (fun _ h => List.mem_cons_of_mem _ (List.mem_append_right _ h)) tyX4_ok nmX4 15 (by decide) (Nat.le_of_ble_eq_true rfl) (Or.inr ⟨hnm, rfl, rfl⟩) (hts _ (List.mem_of_getElem? (i := 21) rfl)) dX4_init_135 rfl rfl (fun Eu99 Hu99 ku99 Su99 ou99 gu99 => ?_)
  have hu99 : Eu99 a0 = .inr (3, [.int v1, .int v3, .int v5, .int v7, .int v9, .int v11, .int v13, .int v15, .ref q18, .ref q23, .ref q29, .ref q36, .ref q44, .ref q53, .ref q63, .ref q89]) := gu99
  have Wu99 : Gr a0 [(27, 2), (26, 2), (25, 2), (24, 2), (23, 2), (22, 2), (21, 2), (20, 2)] L τ E Lq89 Tq89 Eu99 := Gr.wr Wq89 ou99 (Or.inl rfl)
  refine lv_aload_n hx hb dX4_init_138 rfl (lv_at hl 0 rfl) ?_
  refine tr_getR Z.1 Z.2.2.2.1 Su99 hm91 hu99 rfl (fun _ h => List.mem_cons_of_mem _ (List.mem_append_right _ h)) 8 (Nat.le_of_ble_eq_true rfl) rfl (hts _ (List.mem_of_getElem? (i := 13) rfl)) dX4_init_139 ?_
  obtain ⟨v100, ev100, tv100⟩ : ∃ v : Int32, Int32.ofInt (0) = v ∧ v.toInt = 0 := ⟨_, rfl, by decide +kernel⟩
  refine lv_iconst hx hb dX4_init_142 ev100 ?_
  obtain ⟨v101, ev101, tv101⟩ : ∃ v : Int32, (Int8.ofInt (12)).toInt32 = v ∧ v.toInt = 12 := ⟨_, rfl, by decide +kernel⟩
  refine lv_bipush hx hb dX4_init_143 ev101 ?_
  refine tr_iast Z.1 Z.2.2.2.1 Su99.1 Su99.2 hm92 tm92 rfl (by omega) (by omega) (by omega) (by omega) dX4_init_145 (fun Eu102 Hu102 ku102 wu102 iu102 Pu102 => ?_)
  have Su102 : NowG D cy (va_A (va_pl L _) sz) s Lq89 Tq89 Eu102 Hu102 ku102 := ⟨wu102, iu102⟩
  have hu102 : Eu102 a0 = .inr (3, [.int v1, .int v3, .int v5, .int v7, .int v9, .int v11, .int v13, .int v15, .ref q18, .ref q23, .ref q29, .ref q36, .ref q44, .ref q53, .ref q63, .ref q89]) := (Pu102.1 a0 (ne_ro tm91 tm92 (by decide))).trans hu99
  have Wu102 : Gr a0 [(27, 2), (26, 2), (25, 2), (24, 2), (23, 2), (22, 2), (21, 2), (20, 2)] L τ E Lq89 Tq89 Eu102 := Gr.wr Wu99 Pu102.1 (Or.inr f19)
  refine lv_aload_n hx hb dX4_init_146 rfl (lv_at hl 0 rfl) ?_
  refine tr_getR Z.1 Z.2.2.2.1 Su102 hm91 hu102 rfl (fun _ h => List.mem_cons_of_mem _ (List.mem_append_right _ h)) 9 (Nat.le_of_ble_eq_true rfl) rfl (hts _ (List.mem_of_getElem? (i := 14) rfl)) dX4_init_147 ?_
  obtain ⟨v103, ev103, tv103⟩ : ∃ v : Int32, Int32.ofInt (0) = v ∧ v.toInt = 0 := ⟨_, rfl, by decide +kernel⟩
  refine lv_iconst hx hb dX4_init_150 ev103 ?_
  obtain ⟨v104, ev104, tv104⟩ : ∃ v : Int32, (Int16.ofInt (2640)).toInt32 = v ∧ v.toInt = 2640 := ⟨_, rfl, by decide +kernel⟩
  refine lv_sipush hx hb dX4_init_151 ev104 ?_
  refine tr_iast Z.1 Z.2.2.2.1 Su102.1 Su102.2 hm93 tm93 rfl (by omega) (by omega) (by omega) (by omega) dX4_init_154 (fun Eu105 Hu105 ku105 wu105 iu105 Pu105 => ?_)
  have Su105 : NowG D cy (va_A (va_pl L _) sz) s Lq89 Tq89 Eu105 Hu105 ku105 := ⟨wu105, iu105⟩
  have hu105 : Eu105 a0 = .inr (3, [.int v1, .int v3, .int v5, .int v7, .int v9, .int v11, .int v13, .int v15, .ref q18, .ref q23, .ref q29, .ref q36, .ref q44, .ref q53, .ref q63, .ref q89]) := (Pu105.1 a0 (ne_ro tm91 tm93 (by decide))).trans hu102
  have Wu105 : Gr a0 [(27, 2), (26, 2), (25, 2), (24, 2), (23, 2), (22, 2), (21, 2), (20, 2)] L τ E Lq89 Tq89 Eu105 := Gr.wr Wu102 Pu105.1 (Or.inr f24)
  have IR : Inv TB cy Lq89 (upT Tq89 a0 (1, 2)) Eu105 := inv_role Su105.2 tm91 (by decide) (fun _ => Ab.ne Aq89 (by decide)) (fun ci ts h => by
      have h : some ((3 : Nat), ([(0, -2147483648, 2147483647), (0, -2147483648, 2147483647), (0, -2147483648, 2147483647), (0, -2147483648, 2147483647), (0, 0, 3), (0, -2147483648, 2147483647), (0, 0, 8), (0, 0, 8), (1, 20, 2), (1, 21, 2), (1, 22, 2), (1, 23, 2), (1, 24, 2), (1, 25, 2), (1, 26, 2), (1, 27, 2)] : List Ft)) = some (ci, ts) := h
      cases h
      exact okO_of hu105 ⟨⟨v1, rfl, by dsimp only; omega, by dsimp only; omega⟩, ⟨v3, rfl, by dsimp only; omega, by dsimp only; omega⟩, ⟨v5, rfl, by dsimp only; omega, by dsimp only; omega⟩, ⟨v7, rfl, by dsimp only; omega, by dsimp only; omega⟩, ⟨v9, rfl, by dsimp only; omega, by dsimp only; omega⟩, ⟨v11, rfl, by dsimp only; omega, by dsimp only; omega⟩, ⟨v13, rfl, by dsimp only; omega, by dsimp only; omega⟩, ⟨v15, rfl, by dsimp only; omega, by dsimp only; omega⟩, ⟨q18, rfl, hm92, (upT_ne (ne_ro tm92 tm91 (by decide))).trans tm92⟩, ⟨q23, rfl, hm93, (upT_ne (ne_ro tm93 tm91 (by decide))).trans tm93⟩, ⟨q29, rfl, hm94, (upT_ne (ne_ro tm94 tm91 (by decide))).trans tm94⟩, ⟨q36, rfl, hm95, (upT_ne (ne_ro tm95 tm91 (by decide))).trans tm95⟩, ⟨q44, rfl, hm96, (upT_ne (ne_ro tm96 tm91 (by decide))).trans tm96⟩, ⟨q53, rfl, hm97, (upT_ne (ne_ro tm97 tm91 (by decide))).trans tm97⟩, ⟨q63, rfl, hm98, (upT_ne (ne_ro tm98 tm91 (by decide))).trans tm98⟩, ⟨q89, rfl, Pq89.2.2.2.1, (upT_ne (ne_ro Pq89.2.2.2.2.1 tm91 (by decide))).trans Pq89.2.2.2.2.1⟩, trivial⟩) (fun _ _ _ h => nomatch h) (fun _ _ _ h => nomatch h)
  exact en_vG Z ⟨Su105.1, IR⟩ (post := fun _ T9 _ => T9 a0 = (1, 2)) (Gr.role Wu105 ha0) (upT_self _ _ _) dX4_init_155

