theorem dX8_init_0 : decode cX8_init 0 = .ok (.aload_n 0, 1) := by decide +kernel
theorem dX8_init_1 : decode cX8_init 1 = .ok (.invokespecial 3, 3) := by decide +kernel
theorem dX8_init_4 : decode cX8_init 4 = .ok (.aload_n 0, 1) := by decide +kernel
theorem dX8_init_5 : decode cX8_init 5 = .ok (.iconst 0, 1) := by decide +kernel
theorem dX8_init_6 : decode cX8_init 6 = .ok (.putfield 9, 3) := by decide +kernel
theorem dX8_init_9 : decode cX8_init 9 = .ok (.aload_n 0, 1) := by decide +kernel
theorem dX8_init_10 : decode cX8_init 10 = .ok (.iconst (-1), 1) := by decide +kernel
theorem dX8_init_11 : decode cX8_init 11 = .ok (.putfield 15, 3) := by decide +kernel
theorem dX8_init_14 : decode cX8_init 14 = .ok (.aload_n 0, 1) := by decide +kernel
theorem dX8_init_15 : decode cX8_init 15 = .ok (.iconst (-1), 1) := by decide +kernel
theorem dX8_init_16 : decode cX8_init 16 = .ok (.putfield 19, 3) := by decide +kernel
theorem dX8_init_19 : decode cX8_init 19 = .ok (.aload_n 0, 1) := by decide +kernel
theorem dX8_init_20 : decode cX8_init 20 = .ok (.iconst 0, 1) := by decide +kernel
theorem dX8_init_21 : decode cX8_init 21 = .ok (.putfield 22, 3) := by decide +kernel
theorem dX8_init_24 : decode cX8_init 24 = .ok (.return_, 1) := by decide +kernel
set_option maxHeartbeats 4000000 in
set_option maxRecDepth 100000 in
theorem k_X8_init_0 (l : Launch) (D : va_G) (cy : Nat → ClassId) {L : List Nat} {τ : Nat → Ro} {E : Ec} (hI : Inv TB cy L τ E) {a0 : Nat} (ha0 : a0 ∈ L) (ta0 : τ a0 = (206, 0)) (he0 : E a0 = .inr (7, [.int 0, .int 0, .int 0, .int 0])) (hab0 : Ab L τ [(6, 0)]) : CtG l yX8_init wsX8_init { frames := 1, cells := 0, slots := 0, locals := 20 } D cy L τ E [.ref a0] a0 [] 0 0 (fun L' τ' E' => τ' a0 = (6, 0)) := by
  intro sz
  refine staG (cc := cX8_init) (maxL := 1) hI (by decide) rfl (Nat.le_of_ble_eq_true rfl) (fun p e s m args below meth c ls hsz hnm Z hO S0 hl => ?_)
  have hx := Z.1.1
  have hb := Z.1.2.1
  have hts := Z.1.2.2.2.2
  have hnm : meth.name = "<init>" := hnm
  have G0 : Gr a0 [] L τ E L τ E := Gr.refl
  have hl : lv_has ls 1 [(0, .ref a0)] := hl
  refine lv_aload_n hx hb dX8_init_0 rfl (lv_at hl 0 rfl) ?_
  refine tr_obj Z.1 hl.1 (hts _ (List.mem_of_getElem? (i := 1) rfl)) (hts _ (List.mem_of_getElem? (i := 2) rfl)) (hts _ (List.mem_of_getElem? (i := 3) rfl)) dX8_init_1 (Nat.le_of_ble_eq_true rfl) (Nat.le_of_ble_eq_true rfl) ?_
  refine lv_aload_n hx hb dX8_init_4 rfl (lv_at hl 0 rfl) ?_
  obtain ⟨v1, ev1, tv1⟩ : ∃ v : Int32, Int32.ofInt (0) = v ∧ v.toInt = 0 := ⟨_, rfl, by decide +kernel⟩
  refine lv_iconst hx hb dX8_init_5 ev1 ?_
  refine tr_putR Z.1 Z.2.2.2.1 S0 ha0 ta0 rfl rfl rfl he0 rfl (fun _ h => List.mem_cons_of_mem _ (List.mem_append_right _ h)) tyX8_ok nmX8 0 (by decide) (Nat.le_of_ble_eq_true rfl) (Or.inl rfl) (hts _ (List.mem_of_getElem? (i := 4) rfl)) dX8_init_6 (by rw [fa_k 0 (show v1.toInt = (0 : Int32).toInt from tv1)]; decide +kernel) (by rw [fa_k 0 (show v1.toInt = (0 : Int32).toInt from tv1)]; decide +kernel) (fun Eu2 Hu2 ku2 Su2 ou2 gu2 => ?_)
  have hu2 : Eu2 a0 = .inr (7, [.int v1, .int 0, .int 0, .int 0]) := gu2
  have Wu2 : Gr a0 [] L τ E L τ Eu2 := Gr.wr G0 ou2 (Or.inl rfl)
  refine lv_aload_n hx hb dX8_init_9 rfl (lv_at hl 0 rfl) ?_
  obtain ⟨v3, ev3, tv3⟩ : ∃ v : Int32, Int32.ofInt (-1) = v ∧ v.toInt = -1 := ⟨_, rfl, by decide +kernel⟩
  refine lv_iconst hx hb dX8_init_10 ev3 ?_
  refine tr_putR Z.1 Z.2.2.2.1 Su2 ha0 ta0 rfl rfl rfl hu2 rfl (fun _ h => List.mem_cons_of_mem _ (List.mem_append_right _ h)) tyX8_ok nmX8 1 (by decide) (Nat.le_of_ble_eq_true rfl) (Or.inl rfl) (hts _ (List.mem_of_getElem? (i := 5) rfl)) dX8_init_11 rfl rfl (fun Eu4 Hu4 ku4 Su4 ou4 gu4 => ?_)
  have hu4 : Eu4 a0 = .inr (7, [.int v1, .int v3, .int 0, .int 0]) := gu4
  have Wu4 : Gr a0 [] L τ E L τ Eu4 := Gr.wr Wu2 ou4 (Or.inl rfl)
  refine lv_aload_n hx hb dX8_init_14 rfl (lv_at hl 0 rfl) ?_
  obtain ⟨v5, ev5, tv5⟩ : ∃ v : Int32, Int32.ofInt (-1) = v ∧ v.toInt = -1 := ⟨_, rfl, by decide +kernel⟩
  refine lv_iconst hx hb dX8_init_15 ev5 ?_
  refine tr_putR Z.1 Z.2.2.2.1 Su4 ha0 ta0 rfl rfl rfl hu4 rfl (fun _ h => List.mem_cons_of_mem _ (List.mem_append_right _ h)) tyX8_ok nmX8 2 (by decide) (Nat.le_of_ble_eq_true rfl) (Or.inl rfl) (hts _ (List.mem_of_getElem? (i := 6) rfl)) dX8_init_16 rfl rfl (fun Eu6 Hu6 ku6 Su6 ou6 gu6 => ?_)
  have hu6 : Eu6 a0 = .inr (7, [.int v1, .int v3, .int v5, .int 0]) := gu6
  have Wu6 : Gr a0 [] L τ E L τ Eu6 := Gr.wr Wu4 ou6 (Or.inl rfl)
  refine lv_aload_n hx hb dX8_init_19 rfl (lv_at hl 0 rfl) ?_
  obtain ⟨v7, ev7, tv7⟩ : ∃ v : Int32, Int32.ofInt (0) = v ∧ v.toInt = 0 := ⟨_, rfl, by decide +kernel⟩
  refine lv_iconst hx hb dX8_init_20 ev7 ?_
  refine tr_putR Z.1 Z.2.2.2.1 Su6 ha0 ta0 rfl rfl rfl hu6 rfl (fun _ h => List.mem_cons_of_mem _ (List.mem_append_right _ h)) tyX8_ok nmX8 3 (by decide) (Nat.le_of_ble_eq_true rfl) (Or.inl rfl) (hts _ (List.mem_of_getElem? (i := 7) rfl)) dX8_init_21 rfl rfl (fun Eu8 Hu8 ku8 Su8 ou8 gu8 => ?_)
  have hu8 : Eu8 a0 = .inr (7, [.int v1, .int v3, .int v5, .int v7]) := gu8
  have Wu8 : Gr a0 [] L τ E L τ Eu8 := Gr.wr Wu6 ou8 (Or.inl rfl)
  have IR : Inv TB cy L (upT τ a0 (6, 0)) Eu8 := inv_role Su8.2 ta0 (by decide) (fun _ => Ab.ne hab0 (by decide)) (fun ci ts h => by
      have h : some ((7 : Nat), ([(0, 0, 1), (0, -2147483648, 2147483647), (0, -2147483648, 2147483647), (0, -2147483648, 2147483647)] : List Ft)) = some (ci, ts) := h
      cases h
      exact okO_of hu8 ⟨⟨v1, rfl, by dsimp only; omega, by dsimp only; omega⟩, ⟨v3, rfl, by dsimp only; omega, by dsimp only; omega⟩, ⟨v5, rfl, by dsimp only; omega, by dsimp only; omega⟩, ⟨v7, rfl, by dsimp only; omega, by dsimp only; omega⟩, trivial⟩) (fun _ _ _ h => nomatch h) (fun _ _ _ h => nomatch h)
  exact en_vG Z ⟨Su8.1, IR⟩ (post := fun _ T9 _ => T9 a0 = (6, 0)) (Gr.role Wu8 ha0) (upT_self _ _ _) dX8_init_24


set_option maxHeartbeats 4000000 in
set_option maxRecDepth 100000 in
theorem k_X8_init_1 (l : Launch) (D : va_G) (cy : Nat → ClassId) {L : List Nat} {τ : Nat → Ro} {E : Ec} (hI : Inv TB cy L τ E) {a0 : Nat} (ha0 : a0 ∈ L) (ta0 : τ a0 = (206, 1)) (he0 : E a0 = .inr (7, [.int 0, .int 0, .int 0, .int 0])) (hab0 : Ab L τ [(6, 1)]) : CtG l yX8_init wsX8_init { frames := 1, cells := 0, slots := 0, locals := 20 } D cy L τ E [.ref a0] a0 [] 0 0 (fun L' τ' E' => τ' a0 = (6, 1)) := by
  intro sz
  refine staG (cc := cX8_init) (maxL := 1) hI (by decide) rfl (Nat.le_of_ble_eq_true rfl) (fun p e s m args below meth c ls hsz hnm Z hO S0 hl => ?_)
  have hx := Z.1.1
  have hb := Z.1.2.1
  have hts := Z.1.2.2.2.2
  have hnm : meth.name = "<init>" := hnm
  have G0 : Gr a0 [] L τ E L τ E := Gr.refl
  have hl : lv_has ls 1 [(0, .ref a0)] := hl
  refine lv_aload_n hx hb dX8_init_0 rfl (lv_at hl 0 rfl) ?_
  refine tr_obj Z.1 hl.1 (hts _ (List.mem_of_getElem? (i := 1) rfl)) (hts _ (List.mem_of_getElem? (i := 2) rfl)) (hts _ (List.mem_of_getElem? (i := 3) rfl)) dX8_init_1 (Nat.le_of_ble_eq_true rfl) (Nat.le_of_ble_eq_true rfl) ?_
  refine lv_aload_n hx hb dX8_init_4 rfl (lv_at hl 0 rfl) ?_
  obtain ⟨v1, ev1, tv1⟩ : ∃ v : Int32, Int32.ofInt (0) = v ∧ v.toInt = 0 := ⟨_, rfl, by decide +kernel⟩
  refine lv_iconst hx hb dX8_init_5 ev1 ?_
  refine tr_putR Z.1 Z.2.2.2.1 S0 ha0 ta0 rfl rfl rfl he0 rfl (fun _ h => List.mem_cons_of_mem _ (List.mem_append_right _ h)) tyX8_ok nmX8 0 (by decide) (Nat.le_of_ble_eq_true rfl) (Or.inl rfl) (hts _ (List.mem_of_getElem? (i := 4) rfl)) dX8_init_6 (by rw [fa_k 0 (show v1.toInt = (0 : Int32).toInt from tv1)]; decide +kernel) (by rw [fa_k 0 (show v1.toInt = (0 : Int32).toInt from tv1)]; decide +kernel) (fun Eu2 Hu2 ku2 Su2 ou2 gu2 => ?_)
  have hu2 : Eu2 a0 = .inr (7, [.int v1, .int 0, .int 0, .int 0]) := gu2
  have Wu2 : Gr a0 [] L τ E L τ Eu2 := Gr.wr G0 ou2 (Or.inl rfl)
  refine lv_aload_n hx hb dX8_init_9 rfl (lv_at hl 0 rfl) ?_
  obtain ⟨v3, ev3, tv3⟩ : ∃ v : Int32, Int32.ofInt (-1) = v ∧ v.toInt = -1 := ⟨_, rfl, by decide +kernel⟩
  refine lv_iconst hx hb dX8_init_10 ev3 ?_
  refine tr_putR Z.1 Z.2.2.2.1 Su2 ha0 ta0 rfl rfl rfl hu2 rfl (fun _ h => List.mem_cons_of_mem _ (List.mem_append_right _ h)) tyX8_ok nmX8 1 (by decide) (Nat.le_of_ble_eq_true rfl) (Or.inl rfl) (hts _ (List.mem_of_getElem? (i := 5) rfl)) dX8_init_11 rfl rfl (fun Eu4 Hu4 ku4 Su4 ou4 gu4 => ?_)
  have hu4 : Eu4 a0 = .inr (7, [.int v1, .int v3, .int 0, .int 0]) := gu4
  have Wu4 : Gr a0 [] L τ E L τ Eu4 := Gr.wr Wu2 ou4 (Or.inl rfl)
  refine lv_aload_n hx hb dX8_init_14 rfl (lv_at hl 0 rfl) ?_
  obtain ⟨v5, ev5, tv5⟩ : ∃ v : Int32, Int32.ofInt (-1) = v ∧ v.toInt = -1 := ⟨_, rfl, by decide +kernel⟩
  refine lv_iconst hx hb dX8_init_15 ev5 ?_
  refine tr_putR Z.1 Z.2.2.2.1 Su4 ha0 ta0 rfl rfl rfl hu4 rfl (fun _ h => List.mem_cons_of_mem _ (List.mem_append_right _ h)) tyX8_ok nmX8 2 (by decide) (Nat.le_of_ble_eq_true rfl) (Or.inl rfl) (hts _ (List.mem_of_getElem? (i := 6) rfl)) dX8_init_16 rfl rfl (fun Eu6 Hu6 ku6 Su6 ou6 gu6 => ?_)
  have hu6 : Eu6 a0 = .inr (7, [.int v1, .int v3, .int v5, .int 0]) := gu6
  have Wu6 : Gr a0 [] L τ E L τ Eu6 := Gr.wr Wu4 ou6 (Or.inl rfl)
  refine lv_aload_n hx hb dX8_init_19 rfl (lv_at hl 0 rfl) ?_
  obtain ⟨v7, ev7, tv7⟩ : ∃ v : Int32, Int32.ofInt (0) = v ∧ v.toInt = 0 := ⟨_, rfl, by decide +kernel⟩
  refine lv_iconst hx hb dX8_init_20 ev7 ?_
  refine tr_putR Z.1 Z.2.2.2.1 Su6 ha0 ta0 rfl rfl rfl hu6 rfl (fun _ h => List.mem_cons_of_mem _ (List.mem_append_right _ h)) tyX8_ok nmX8 3 (by decide) (Nat.le_of_ble_eq_true rfl) (Or.inl rfl) (hts _ (List.mem_of_getElem? (i := 7) rfl)) dX8_init_21 rfl rfl (fun Eu8 Hu8 ku8 Su8 ou8 gu8 => ?_)
  have hu8 : Eu8 a0 = .inr (7, [.int v1, .int v3, .int v5, .int v7]) := gu8
  have Wu8 : Gr a0 [] L τ E L τ Eu8 := Gr.wr Wu6 ou8 (Or.inl rfl)
  have IR : Inv TB cy L (upT τ a0 (6, 1)) Eu8 := inv_role Su8.2 ta0 (by decide) (fun _ => Ab.ne hab0 (by decide)) (fun ci ts h => by
      have h : some ((7 : Nat), ([(0, 0, 1), (0, -2147483648, 2147483647), (0, -2147483648, 2147483647), (0, -2147483648, 2147483647)] : List Ft)) = some (ci, ts) := h
      cases h
      exact okO_of hu8 ⟨⟨v1, rfl, by dsimp only; omega, by dsimp only; omega⟩, ⟨v3, rfl, by dsimp only; omega, by dsimp only; omega⟩, ⟨v5, rfl, by dsimp only; omega, by dsimp only; omega⟩, ⟨v7, rfl, by dsimp only; omega, by dsimp only; omega⟩, trivial⟩) (fun _ _ _ h => nomatch h) (fun _ _ _ h => nomatch h)
  exact en_vG Z ⟨Su8.1, IR⟩ (post := fun _ T9 _ => T9 a0 = (6, 1)) (Gr.role Wu8 ha0) (upT_self _ _ _) dX8_init_24

theorem dX5_init_0 : decode cX5_init 0 = .ok (.aload_n 0, 1) := by decide +kernel
theorem dX5_init_1 : decode cX5_init 1 = .ok (.invokespecial 5, 3) := by decide +kernel
theorem dX5_init_4 : decode cX5_init 4 = .ok (.aload_n 0, 1) := by decide +kernel
theorem dX5_init_5 : decode cX5_init 5 = .ok (.bipush 120, 2) := by decide +kernel
theorem dX5_init_7 : decode cX5_init 7 = .ok (.newarray .byte, 2) := by decide +kernel
theorem dX5_init_9 : decode cX5_init 9 = .ok (.putfield 11, 3) := by decide +kernel
theorem dX5_init_12 : decode cX5_init 12 = .ok (.aload_n 0, 1) := by decide +kernel
theorem dX5_init_13 : decode cX5_init 13 = .ok (.iconst 0, 1) := by decide +kernel
theorem dX5_init_14 : decode cX5_init 14 = .ok (.putfield 15, 3) := by decide +kernel
theorem dX5_init_17 : decode cX5_init 17 = .ok (.aload_n 0, 1) := by decide +kernel
theorem dX5_init_18 : decode cX5_init 18 = .ok (.iconst 0, 1) := by decide +kernel
theorem dX5_init_19 : decode cX5_init 19 = .ok (.putfield 19, 3) := by decide +kernel
theorem dX5_init_22 : decode cX5_init 22 = .ok (.aload_n 0, 1) := by decide +kernel
theorem dX5_init_23 : decode cX5_init 23 = .ok (.iconst 0, 1) := by decide +kernel
theorem dX5_init_24 : decode cX5_init 24 = .ok (.putfield 22, 3) := by decide +kernel
theorem dX5_init_27 : decode cX5_init 27 = .ok (.aload_n 0, 1) := by decide +kernel
theorem dX5_init_28 : decode cX5_init 28 = .ok (.iconst 0, 1) := by decide +kernel
theorem dX5_init_29 : decode cX5_init 29 = .ok (.putfield 25, 3) := by decide +kernel
theorem dX5_init_32 : decode cX5_init 32 = .ok (.aload_n 0, 1) := by decide +kernel
theorem dX5_init_33 : decode cX5_init 33 = .ok (.iconst (-1), 1) := by decide +kernel
theorem dX5_init_34 : decode cX5_init 34 = .ok (.putfield 28, 3) := by decide +kernel
theorem dX5_init_37 : decode cX5_init 37 = .ok (.aload_n 0, 1) := by decide +kernel
theorem dX5_init_38 : decode cX5_init 38 = .ok (.iconst 0, 1) := by decide +kernel
theorem dX5_init_39 : decode cX5_init 39 = .ok (.putfield 31, 3) := by decide +kernel
theorem dX5_init_42 : decode cX5_init 42 = .ok (.aload_n 0, 1) := by decide +kernel
theorem dX5_init_43 : decode cX5_init 43 = .ok (.iconst 0, 1) := by decide +kernel
theorem dX5_init_44 : decode cX5_init 44 = .ok (.putfield 35, 3) := by decide +kernel
theorem dX5_init_47 : decode cX5_init 47 = .ok (.aload_n 0, 1) := by decide +kernel
theorem dX5_init_48 : decode cX5_init 48 = .ok (.iconst 0, 1) := by decide +kernel
theorem dX5_init_49 : decode cX5_init 49 = .ok (.putfield 38, 3) := by decide +kernel
theorem dX5_init_52 : decode cX5_init 52 = .ok (.aload_n 0, 1) := by decide +kernel
theorem dX5_init_53 : decode cX5_init 53 = .ok (.iconst 0, 1) := by decide +kernel
theorem dX5_init_54 : decode cX5_init 54 = .ok (.putfield 41, 3) := by decide +kernel
theorem dX5_init_57 : decode cX5_init 57 = .ok (.aload_n 0, 1) := by decide +kernel
theorem dX5_init_58 : decode cX5_init 58 = .ok (.iconst 4, 1) := by decide +kernel
theorem dX5_init_59 : decode cX5_init 59 = .ok (.newarray .int, 2) := by decide +kernel
theorem dX5_init_61 : decode cX5_init 61 = .ok (.putfield 44, 3) := by decide +kernel
theorem dX5_init_64 : decode cX5_init 64 = .ok (.aload_n 0, 1) := by decide +kernel
theorem dX5_init_65 : decode cX5_init 65 = .ok (.bipush 64, 2) := by decide +kernel
theorem dX5_init_67 : decode cX5_init 67 = .ok (.newarray .int, 2) := by decide +kernel
theorem dX5_init_69 : decode cX5_init 69 = .ok (.putfield 48, 3) := by decide +kernel
theorem dX5_init_72 : decode cX5_init 72 = .ok (.aload_n 0, 1) := by decide +kernel
theorem dX5_init_73 : decode cX5_init 73 = .ok (.bipush 64, 2) := by decide +kernel
theorem dX5_init_75 : decode cX5_init 75 = .ok (.newarray .int, 2) := by decide +kernel
theorem dX5_init_77 : decode cX5_init 77 = .ok (.putfield 51, 3) := by decide +kernel
theorem dX5_init_80 : decode cX5_init 80 = .ok (.aload_n 0, 1) := by decide +kernel
theorem dX5_init_81 : decode cX5_init 81 = .ok (.bipush 64, 2) := by decide +kernel
theorem dX5_init_83 : decode cX5_init 83 = .ok (.newarray .int, 2) := by decide +kernel
theorem dX5_init_85 : decode cX5_init 85 = .ok (.putfield 54, 3) := by decide +kernel
theorem dX5_init_88 : decode cX5_init 88 = .ok (.return_, 1) := by decide +kernel
set_option maxHeartbeats 4000000 in
set_option maxRecDepth 100000 in
theorem k_X5_init_0 (l : Launch) (D : va_G) (cy : Nat → ClassId) {L : List Nat} {τ : Nat → Ro} {E : Ec} (hI : Inv TB cy L τ E) {a0 : Nat} (ha0 : a0 ∈ L) (ta0 : τ a0 = (207, 0)) (he0 : E a0 = .inr (4, [.null, .int 0, .int 0, .int 0, .int 0, .int 0, .int 0, .int 0, .int 0, .int 0, .null, .null, .null, .null])) (hab0 : Ab L τ [(7, 0), (32, 0), (33, 0), (34, 0), (35, 0), (36, 0)]) : CtG l yX5_init wsX5_init { frames := 1, cells := 5, slots := 316, locals := 20 } D cy L τ E [.ref a0] a0 [(36, 0), (35, 0), (34, 0), (33, 0), (32, 0)] 5 316 (fun L' τ' E' => τ' a0 = (7, 0) ∧ (fi E' a0 1).toInt = 0 ∧ (fi E' a0 4).toInt = 0) := by
  intro sz
  refine staG (cc := cX5_init) (maxL := 1) hI (by decide) rfl (Nat.le_of_ble_eq_true rfl) (fun p e s m args below meth c ls hsz hnm Z hO S0 hl => ?_)
  have hx := Z.1.1
  have hb := Z.1.2.1
  have hts := Z.1.2.2.2.2
  have hnm : meth.name = "<init>" := hnm
  have G0 : Gr a0 [] L τ E L τ E := Gr.refl
  have hl : lv_has ls 1 [(0, .ref a0)] := hl
  refine lv_aload_n hx hb dX5_init_0 rfl (lv_at hl 0 rfl) ?_
  refine tr_obj Z.1 hl.1 (hts _ (List.mem_of_getElem? (i := 1) rfl)) (hts _ (List.mem_of_getElem? (i := 2) rfl)) (hts _ (List.mem_of_getElem? (i := 3) rfl)) dX5_init_1 (Nat.le_of_ble_eq_true rfl) (Nat.le_of_ble_eq_true rfl) ?_
  refine lv_aload_n hx hb dX5_init_4 rfl (lv_at hl 0 rfl) ?_
  obtain ⟨v1, ev1, tv1⟩ : ∃ v : Int32, (Int8.ofInt (120)).toInt32 = v ∧ v.toInt = 120 := ⟨_, rfl, by decide +kernel⟩
  refine lv_bipush hx hb dX5_init_5 ev1 ?_
  refine tr_newi Z.1 Z.2.2.2.1 Z.2.2.2.2.2 S0 (hts _ (List.mem_of_getElem? (i := 4) rfl)) rfl 1 rfl 120 (by omega) (vc_ty _ rfl _) (Nat.le_of_ble_eq_true rfl) (32, 0) rfl rfl rfl (fun i => ⟨(by decide : (-128 : Int) ≤ 0), (by decide : (0 : Int) ≤ 127)⟩) (fun _ => Ab.ne hab0 (by decide)) (Nat.le_of_ble_eq_true rfl) (Nat.le_of_ble_eq_true rfl) dX5_init_7 (fun Lq2 Tq2 Eq2 q2 Hq2 Sq2 Pq2 => ?_)
  have Wq2 : Gr a0 [(32, 0)] L τ E Lq2 Tq2 Eq2 := Gr.push G0 Pq2
  have f3 : q2 ∉ L := Gr.fresh G0 Pq2
  have Aq2 : Ab Lq2 Tq2 [(7, 0), (33, 0), (34, 0), (35, 0), (36, 0)] := Ab.push hab0 Pq2 (by decide) (by decide)
  have eq2 : Eq2 a0 = .inr (4, [.null, .int 0, .int 0, .int 0, .int 0, .int 0, .int 0, .int 0, .int 0, .int 0, .null, .null, .null, .null]) := (Pq2.2.2.1 a0 ha0).trans he0
  have hm4 : a0 ∈ Lq2 := Pq2.1 _ ha0
  have tm4 : Tq2 a0 = (207, 0) := (Pq2.2.1 _ ha0).trans ta0
  refine tr_putR Z.1 Z.2.2.2.1 Sq2 hm4 tm4 rfl rfl rfl eq2 rfl (fun _ h => List.mem_cons_of_mem _ (List.mem_append_right _ h)) tyX5_ok nmX5 0 (by decide) (Nat.le_of_ble_eq_true rfl) (Or.inr ⟨hnm, rfl, rfl⟩) (hts _ (List.mem_of_getElem? (i := 5) rfl)) dX5_init_9 rfl rfl (fun Eu5 Hu5 ku5 Su5 ou5 gu5 => ?_)
  have hu5 : Eu5 a0 = .inr (4, [.ref q2, .int 0, .int 0, .int 0, .int 0, .int 0, .int 0, .int 0, .int 0, .int 0, .null, .null, .null, .null]) := gu5
  have Wu5 : Gr a0 [(32, 0)] L τ E Lq2 Tq2 Eu5 := Gr.wr Wq2 ou5 (Or.inl rfl)
  refine lv_aload_n hx hb dX5_init_12 rfl (lv_at hl 0 rfl) ?_
  obtain ⟨v6, ev6, tv6⟩ : ∃ v : Int32, Int32.ofInt (0) = v ∧ v.toInt = 0 := ⟨_, rfl, by decide +kernel⟩
  refine lv_iconst hx hb dX5_init_13 ev6 ?_
  refine tr_putR Z.1 Z.2.2.2.1 Su5 hm4 tm4 rfl rfl rfl hu5 rfl (fun _ h => List.mem_cons_of_mem _ (List.mem_append_right _ h)) tyX5_ok nmX5 1 (by decide) (Nat.le_of_ble_eq_true rfl) (Or.inl rfl) (hts _ (List.mem_of_getElem? (i := 6) rfl)) dX5_init_14 rfl rfl (fun Eu7 Hu7 ku7 Su7 ou7 gu7 => ?_)
  have hu7 : Eu7 a0 = .inr (4, [.ref q2, .int v6, .int 0, .int 0, .int 0, .int 0, .int 0, .int 0, .int 0, .int 0, .null, .null, .null, .null]) := gu7
  have Wu7 : Gr a0 [(32, 0)] L τ E Lq2 Tq2 Eu7 := Gr.wr Wu5 ou7 (Or.inl rfl)
  refine lv_aload_n hx hb dX5_init_17 rfl (lv_at hl 0 rfl) ?_
  obtain ⟨v8, ev8, tv8⟩ : ∃ v : Int32, Int32.ofInt (0) = v ∧ v.toInt = 0 := ⟨_, rfl, by decide +kernel⟩
  refine lv_iconst hx hb dX5_init_18 ev8 ?_
  refine tr_putR Z.1 Z.2.2.2.1 Su7 hm4 tm4 rfl rfl rfl hu7 rfl (fun _ h => List.mem_cons_of_mem _ (List.mem_append_right _ h)) tyX5_ok nmX5 2 (by decide) (Nat.le_of_ble_eq_true rfl) (Or.inl rfl) (hts _ (List.mem_of_getElem? (i := 7) rfl)) dX5_init_19 rfl rfl (fun Eu9 Hu9 ku9 Su9 ou9 gu9 => ?_)
  have hu9 : Eu9 a0 = .inr (4, [.ref q2, .int v6, .int v8, .int 0, .int 0, .int 0, .int 0, .int 0, .int 0, .int 0, .null, .null, .null, .null]) := gu9
  have Wu9 : Gr a0 [(32, 0)] L τ E Lq2 Tq2 Eu9 := Gr.wr Wu7 ou9 (Or.inl rfl)
  refine lv_aload_n hx hb dX5_init_22 rfl (lv_at hl 0 rfl) ?_
  obtain ⟨v10, ev10, tv10⟩ : ∃ v : Int32, Int32.ofInt (0) = v ∧ v.toInt = 0 := ⟨_, rfl, by decide +kernel⟩
  refine lv_iconst hx hb dX5_init_23 ev10 ?_
  refine tr_putR Z.1 Z.2.2.2.1 Su9 hm4 tm4 rfl rfl rfl hu9 rfl (fun _ h => List.mem_cons_of_mem _ (List.mem_append_right _ h)) tyX5_ok nmX5 3 (by decide) (Nat.le_of_ble_eq_true rfl) (Or.inl rfl) (hts _ (List.mem_of_getElem? (i := 8) rfl)) dX5_init_24 rfl rfl (fun Eu11 Hu11 ku11 Su11 ou11 gu11 => ?_)
  have hu11 : Eu11 a0 = .inr (4, [.ref q2, .int v6, .int v8, .int v10, .int 0, .int 0, .int 0, .int 0, .int 0, .int 0, .null, .null, .null, .null]) := gu11
  have Wu11 : Gr a0 [(32, 0)] L τ E Lq2 Tq2 Eu11 := Gr.wr Wu9 ou11 (Or.inl rfl)
  refine lv_aload_n hx hb dX5_init_27 rfl (lv_at hl 0 rfl) ?_
  obtain ⟨v12, ev12, tv12⟩ : ∃ v : Int32, Int32.ofInt (0) = v ∧ v.toInt = 0 := ⟨_, rfl, by decide +kernel⟩
  refine lv_iconst hx hb dX5_init_28 ev12 ?_
  refine tr_putR Z.1 Z.2.2.2.1 Su11 hm4 tm4 rfl rfl rfl hu11 rfl (fun _ h => List.mem_cons_of_mem _ (List.mem_append_right _ h)) tyX5_ok nmX5 4 (by decide) (Nat.le_of_ble_eq_true rfl) (Or.inl rfl) (hts _ (List.mem_of_getElem? (i := 9) rfl)) dX5_init_29 rfl rfl (fun Eu13 Hu13 ku13 Su13 ou13 gu13 => ?_)
  have hu13 : Eu13 a0 = .inr (4, [.ref q2, .int v6, .int v8, .int v10, .int v12, .int 0, .int 0, .int 0, .int 0, .int 0, .null, .null, .null, .null]) := gu13
  have Wu13 : Gr a0 [(32, 0)] L τ E Lq2 Tq2 Eu13 := Gr.wr Wu11 ou13 (Or.inl rfl)
  refine lv_aload_n hx hb dX5_init_32 rfl (lv_at hl 0 rfl) ?_
  obtain ⟨v14, ev14, tv14⟩ : ∃ v : Int32, Int32.ofInt (-1) = v ∧ v.toInt = -1 := ⟨_, rfl, by decide +kernel⟩
  refine lv_iconst hx hb dX5_init_33 ev14 ?_
  refine tr_putR Z.1 Z.2.2.2.1 Su13 hm4 tm4 rfl rfl rfl hu13 rfl (fun _ h => List.mem_cons_of_mem _ (List.mem_append_right _ h)) tyX5_ok nmX5 5 (by decide) (Nat.le_of_ble_eq_true rfl) (Or.inl rfl) (hts _ (List.mem_of_getElem? (i := 10) rfl)) dX5_init_34 rfl rfl (fun Eu15 Hu15 ku15 Su15 ou15 gu15 => ?_)
  have hu15 : Eu15 a0 = .inr (4, [.ref q2, .int v6, .int v8, .int v10, .int v12, .int v14, .int 0, .int 0, .int 0, .int 0, .null, .null, .null, .null]) := gu15
  have Wu15 : Gr a0 [(32, 0)] L τ E Lq2 Tq2 Eu15 := Gr.wr Wu13 ou15 (Or.inl rfl)
  refine lv_aload_n hx hb dX5_init_37 rfl (lv_at hl 0 rfl) ?_
  obtain ⟨v16, ev16, tv16⟩ : ∃ v : Int32, Int32.ofInt (0) = v ∧ v.toInt = 0 := ⟨_, rfl, by decide +kernel⟩
  refine lv_iconst hx hb dX5_init_38 ev16 ?_
  refine tr_putR Z.1 Z.2.2.2.1 Su15 hm4 tm4 rfl rfl rfl hu15 rfl (fun _ h => List.mem_cons_of_mem _ (List.mem_append_right _ h)) tyX5_ok nmX5 6 (by decide) (Nat.le_of_ble_eq_true rfl) (Or.inl rfl) (hts _ (List.mem_of_getElem? (i := 11) rfl)) dX5_init_39 (by rw [fa_k 0 (show v16.toInt = (0 : Int32).toInt from tv16)]; decide +kernel) (by rw [fa_k 0 (show v16.toInt = (0 : Int32).toInt from tv16)]; decide +kernel) (fun Eu17 Hu17 ku17 Su17 ou17 gu17 => ?_)
  have hu17 : Eu17 a0 = .inr (4, [.ref q2, .int v6, .int v8, .int v10, .int v12, .int v14, .int v16, .int 0, .int 0, .int 0, .null, .null, .null, .null]) := gu17
  have Wu17 : Gr a0 [(32, 0)] L τ E Lq2 Tq2 Eu17 := Gr.wr Wu15 ou17 (Or.inl rfl)
  refine lv_aload_n hx hb dX5_init_42 rfl (lv_at hl 0 rfl) ?_
  obtain ⟨v18, ev18, tv18⟩ : ∃ v : Int32, Int32.ofInt (0) = v ∧ v.toInt = 0 := ⟨_, rfl, by decide +kernel⟩
  refine lv_iconst hx hb dX5_init_43 ev18 ?_
  refine tr_putR Z.1 Z.2.2.2.1 Su17 hm4 tm4 rfl rfl rfl hu17 rfl (fun _ h => List.mem_cons_of_mem _ (List.mem_append_right _ h)) tyX5_ok nmX5 7 (by decide) (Nat.le_of_ble_eq_true rfl) (Or.inl rfl) (hts _ (List.mem_of_getElem? (i := 12) rfl)) dX5_init_44 (by rw [fa_k 0 (show v18.toInt = (0 : Int32).toInt from tv18)]; decide +kernel) (by rw [fa_k 0 (show v18.toInt = (0 : Int32).toInt from tv18)]; decide +kernel) (fun Eu19 Hu19 ku19 Su19 ou19 gu19 => ?_)
  have hu19 : Eu19 a0 = .inr (4, [.ref q2, .int v6, .int v8, .int v10, .int v12, .int v14, .int v16, .int v18, .int 0, .int 0, .null, .null, .null, .null]) := gu19
  have Wu19 : Gr a0 [(32, 0)] L τ E Lq2 Tq2 Eu19 := Gr.wr Wu17 ou19 (Or.inl rfl)
  refine lv_aload_n hx hb dX5_init_47 rfl (lv_at hl 0 rfl) ?_
  obtain ⟨v20, ev20, tv20⟩ : ∃ v : Int32, Int32.ofInt (0) = v ∧ v.toInt = 0 := ⟨_, rfl, by decide +kernel⟩
  refine lv_iconst hx hb dX5_init_48 ev20 ?_
  refine tr_putR Z.1 Z.2.2.2.1 Su19 hm4 tm4 rfl rfl rfl hu19 rfl (fun _ h => List.mem_cons_of_mem _ (List.mem_append_right _ h)) tyX5_ok nmX5 8 (by decide) (Nat.le_of_ble_eq_true rfl) (Or.inl rfl) (hts _ (List.mem_of_getElem? (i := 13) rfl)) dX5_init_49 rfl rfl (fun Eu21 Hu21 ku21 Su21 ou21 gu21 => ?_)
  have hu21 : Eu21 a0 = .inr (4, [.ref q2, .int v6, .int v8, .int v10, .int v12, .int v14, .int v16, .int v18, .int v20, .int 0, .null, .null, .null, .null]) := gu21
  have Wu21 : Gr a0 [(32, 0)] L τ E Lq2 Tq2 Eu21 := Gr.wr Wu19 ou21 (Or.inl rfl)
  refine lv_aload_n hx hb dX5_init_52 rfl (lv_at hl 0 rfl) ?_
  obtain ⟨v22, ev22, tv22⟩ : ∃ v : Int32, Int32.ofInt (0) = v ∧ v.toInt = 0 := ⟨_, rfl, by decide +kernel⟩
  refine lv_iconst hx hb dX5_init_53 ev22 ?_
  refine tr_putR Z.1 Z.2.2.2.1 Su21 hm4 tm4 rfl rfl rfl hu21 rfl (fun _ h => List.mem_cons_of_mem _ (List.mem_append_right _ h)) tyX5_ok nmX5 9 (by decide) (Nat.le_of_ble_eq_true rfl) (Or.inl rfl) (hts _ (List.mem_of_getElem? (i := 14) rfl)) dX5_init_54 rfl rfl (fun Eu23 Hu23 ku23 Su23 ou23 gu23 => ?_)
  have hu23 : Eu23 a0 = .inr (4, [.ref q2, .int v6, .int v8, .int v10, .int v12, .int v14, .int v16, .int v18, .int v20, .int v22, .null, .null, .null, .null]) := gu23
  have Wu23 : Gr a0 [(32, 0)] L τ E Lq2 Tq2 Eu23 := Gr.wr Wu21 ou23 (Or.inl rfl)
  refine lv_aload_n hx hb dX5_init_57 rfl (lv_at hl 0 rfl) ?_
  obtain ⟨v24, ev24, tv24⟩ : ∃ v : Int32, Int32.ofInt (4) = v ∧ v.toInt = 4 := ⟨_, rfl, by decide +kernel⟩
  refine lv_iconst hx hb dX5_init_58 ev24 ?_
  refine tr_newi Z.1 Z.2.2.2.1 Z.2.2.2.2.2 Su23 (hts _ (List.mem_of_getElem? (i := 15) rfl)) rfl 0 rfl 4 (by omega) (vc_ty _ rfl _) (Nat.le_of_ble_eq_true rfl) (33, 0) rfl rfl rfl (fun i => ⟨(by decide : (0 : Int) ≤ 0), (by decide : (0 : Int) ≤ 64)⟩) (fun _ => Ab.ne Aq2 (by decide)) (Nat.le_of_ble_eq_true rfl) (Nat.le_of_ble_eq_true rfl) dX5_init_59 (fun Lq25 Tq25 Eq25 q25 Hq25 Sq25 Pq25 => ?_)
  have Wq25 : Gr a0 [(33, 0), (32, 0)] L τ E Lq25 Tq25 Eq25 := Gr.push Wu23 Pq25
  have f26 : q25 ∉ L := Gr.fresh Wu23 Pq25
  have Aq25 : Ab Lq25 Tq25 [(7, 0), (34, 0), (35, 0), (36, 0)] := Ab.push Aq2 Pq25 (by decide) (by decide)
  have eq25 : Eq25 a0 = .inr (4, [.ref q2, .int v6, .int v8, .int v10, .int v12, .int v14, .int v16, .int v18, .int v20, .int v22, .null, .null, .null, .null]) := (Pq25.2.2.1 a0 hm4).trans hu23
  have hm27 : a0 ∈ Lq25 := Pq25.1 _ hm4
  have tm27 : Tq25 a0 = (207, 0) := (Pq25.2.1 _ hm4).trans tm4
  have hm28 : q2 ∈ Lq25 := Pq25.1 _ Pq2.2.2.2.1
  have tm28 : Tq25 q2 = (32, 0) := (Pq25.2.1 _ Pq2.2.2.2.1).trans Pq2.2.2.2.2.1
  refine tr_putR Z.1 Z.2.2.2.1 Sq25 hm27 tm27 rfl rfl rfl eq25 rfl (fun _ h => List.mem_cons_of_mem _ (List.mem_append_right _ h)) tyX5_ok nmX5 10 (by decide) (Nat.le_of_ble_eq_true rfl) (Or.inr ⟨hnm, rfl, rfl⟩) (hts _ (List.mem_of_getElem? (i := 16) rfl)) dX5_init_61 rfl rfl (fun Eu29 Hu29 ku29 Su29 ou29 gu29 => ?_)
  have hu29 : Eu29 a0 = .inr (4, [.ref q2, .int v6, .int v8, .int v10, .int v12, .int v14, .int v16, .int v18, .int v20, .int v22, .ref q25, .null, .null, .null]) := gu29
  have Wu29 : Gr a0 [(33, 0), (32, 0)] L τ E Lq25 Tq25 Eu29 := Gr.wr Wq25 ou29 (Or.inl rfl)
  refine lv_aload_n hx hb dX5_init_64 rfl (lv_at hl 0 rfl) ?_
  obtain ⟨v30, ev30, tv30⟩ : ∃ v : Int32, (Int8.ofInt (64)).toInt32 = v ∧ v.toInt = 64 := ⟨_, rfl, by decide +kernel⟩
  refine lv_bipush hx hb dX5_init_65 ev30 ?_
  refine tr_newi Z.1 Z.2.2.2.1 Z.2.2.2.2.2 Su29 (hts _ (List.mem_of_getElem? (i := 15) rfl)) rfl 0 rfl 64 (by omega) (vc_ty _ rfl _) (Nat.le_of_ble_eq_true rfl) (34, 0) rfl rfl rfl (fun i => ⟨(by decide : (-2147483648 : Int) ≤ 0), (by decide : (0 : Int) ≤ 2147483647)⟩) (fun _ => Ab.ne Aq25 (by decide)) (Nat.le_of_ble_eq_true rfl) (Nat.le_of_ble_eq_true rfl) dX5_init_67 (fun Lq31 Tq31 Eq31 q31 Hq31 Sq31 Pq31 => ?_)
  have Wq31 : Gr a0 [(34, 0), (33, 0), (32, 0)] L τ E Lq31 Tq31 Eq31 := Gr.push Wu29 Pq31
  have f32 : q31 ∉ L := Gr.fresh Wu29 Pq31
  have Aq31 : Ab Lq31 Tq31 [(7, 0), (35, 0), (36, 0)] := Ab.push Aq25 Pq31 (by decide) (by decide)
  have eq31 : Eq31 a0 = .inr (4, [.ref q2, .int v6, .int v8, .int v10, .int v12, .int v14, .int v16, .int v18, .int v20, .int v22, .ref q25, .null, .null, .null]) := (Pq31.2.2.1 a0 hm27).trans hu29
  have hm33 : a0 ∈ Lq31 := Pq31.1 _ hm27
  have tm33 : Tq31 a0 = (207, 0) := (Pq31.2.1 _ hm27).trans tm27
  have hm34 : q2 ∈ Lq31 := Pq31.1 _ hm28
  have tm34 : Tq31 q2 = (32, 0) := (Pq31.2.1 _ hm28).trans tm28
  have hm35 : q25 ∈ Lq31 := Pq31.1 _ Pq25.2.2.2.1
  have tm35 : Tq31 q25 = (33, 0) := (Pq31.2.1 _ Pq25.2.2.2.1).trans Pq25.2.2.2.2.1
  refine tr_putR Z.1 Z.2.2.2.1 Sq31 hm33 tm33 rfl rfl rfl eq31 rfl (fun _ h => List.mem_cons_of_mem _ (List.mem_append_right _ h)) tyX5_ok nmX5 11 (by decide) (Nat.le_of_ble_eq_true rfl) (Or.inr ⟨hnm, rfl, rfl⟩) (hts _ (List.mem_of_getElem? (i := 17) rfl)) dX5_init_69 rfl rfl (fun Eu36 Hu36 ku36 Su36 ou36 gu36 => ?_)
  have hu36 : Eu36 a0 = .inr (4, [.ref q2, .int v6, .int v8, .int v10, .int v12, .int v14, .int v16, .int v18, .int v20, .int v22, .ref q25, .ref q31, .null, .null]) := gu36
  have Wu36 : Gr a0 [(34, 0), (33, 0), (32, 0)] L τ E Lq31 Tq31 Eu36 := Gr.wr Wq31 ou36 (Or.inl rfl)
  refine lv_aload_n hx hb dX5_init_72 rfl (lv_at hl 0 rfl) ?_
  obtain ⟨v37, ev37, tv37⟩ : ∃ v : Int32, (Int8.ofInt (64)).toInt32 = v ∧ v.toInt = 64 := ⟨_, rfl, by decide +kernel⟩
  refine lv_bipush hx hb dX5_init_73 ev37 ?_
  refine tr_newi Z.1 Z.2.2.2.1 Z.2.2.2.2.2 Su36 (hts _ (List.mem_of_getElem? (i := 15) rfl)) rfl 0 rfl 64 (by omega) (vc_ty _ rfl _) (Nat.le_of_ble_eq_true rfl) (35, 0) rfl rfl rfl (fun i => ⟨(by decide : (0 : Int) ≤ 0), (by decide : (0 : Int) ≤ 12)⟩) (fun _ => Ab.ne Aq31 (by decide)) (Nat.le_of_ble_eq_true rfl) (Nat.le_of_ble_eq_true rfl) dX5_init_75 (fun Lq38 Tq38 Eq38 q38 Hq38 Sq38 Pq38 => ?_)
  have Wq38 : Gr a0 [(35, 0), (34, 0), (33, 0), (32, 0)] L τ E Lq38 Tq38 Eq38 := Gr.push Wu36 Pq38
  have f39 : q38 ∉ L := Gr.fresh Wu36 Pq38
  have Aq38 : Ab Lq38 Tq38 [(7, 0), (36, 0)] := Ab.push Aq31 Pq38 (by decide) (by decide)
  have eq38 : Eq38 a0 = .inr (4, [.ref q2, .int v6, .int v8, .int v10, .int v12, .int v14, .int v16, .int v18, .int v20, .int v22, .ref q25, .ref q31, .null, .null]) := (Pq38.2.2.1 a0 hm33).trans hu36
  have hm40 : a0 ∈ Lq38 := Pq38.1 _ hm33
  have tm40 : Tq38 a0 = (207, 0) := (Pq38.2.1 _ hm33).trans tm33
  have hm41 : q2 ∈ Lq38 := Pq38.1 _ hm34
  have tm41 : Tq38 q2 = (32, 0) := (Pq38.2.1 _ hm34).trans tm34
  have hm42 : q25 ∈ Lq38 := Pq38.1 _ hm35
  have tm42 : Tq38 q25 = (33, 0) := (Pq38.2.1 _ hm35).trans tm35
  have hm43 : q31 ∈ Lq38 := Pq38.1 _ Pq31.2.2.2.1
  have tm43 : Tq38 q31 = (34, 0) := (Pq38.2.1 _ Pq31.2.2.2.1).trans Pq31.2.2.2.2.1
  refine tr_putR Z.1 Z.2.2.2.1 Sq38 hm40 tm40 rfl rfl rfl eq38 rfl (fun _ h => List.mem_cons_of_mem _ (List.mem_append_right _ h)) tyX5_ok nmX5 12 (by decide) (Nat.le_of_ble_eq_true rfl) (Or.inr ⟨hnm, rfl, rfl⟩) (hts _ (List.mem_of_getElem? (i := 18) rfl)) dX5_init_77 rfl rfl (fun Eu44 Hu44 ku44 Su44 ou44 gu44 => ?_)
  have hu44 : Eu44 a0 = .inr (4, [.ref q2, .int v6, .int v8, .int v10, .int v12, .int v14, .int v16, .int v18, .int v20, .int v22, .ref q25, .ref q31, .ref q38, .null]) := gu44
  have Wu44 : Gr a0 [(35, 0), (34, 0), (33, 0), (32, 0)] L τ E Lq38 Tq38 Eu44 := Gr.wr Wq38 ou44 (Or.inl rfl)
  refine lv_aload_n hx hb dX5_init_80 rfl (lv_at hl 0 rfl) ?_
  obtain ⟨v45, ev45, tv45⟩ : ∃ v : Int32, (Int8.ofInt (64)).toInt32 = v ∧ v.toInt = 64 := ⟨_, rfl, by decide +kernel⟩
  refine lv_bipush hx hb dX5_init_81 ev45 ?_
  refine tr_newi Z.1 Z.2.2.2.1 Z.2.2.2.2.2 Su44 (hts _ (List.mem_of_getElem? (i := 15) rfl)) rfl 0 rfl 64 (by omega) (vc_ty _ rfl _) (Nat.le_of_ble_eq_true rfl) (36, 0) rfl rfl rfl (fun i => ⟨(by decide : (0 : Int) ≤ 0), (by decide : (0 : Int) ≤ 1)⟩) (fun _ => Ab.ne Aq38 (by decide)) (Nat.le_of_ble_eq_true rfl) (Nat.le_of_ble_eq_true rfl) dX5_init_83 (fun Lq46 Tq46 Eq46 q46 Hq46 Sq46 Pq46 => ?_)
  have Wq46 : Gr a0 [(36, 0), (35, 0), (34, 0), (33, 0), (32, 0)] L τ E Lq46 Tq46 Eq46 := Gr.push Wu44 Pq46
  have f47 : q46 ∉ L := Gr.fresh Wu44 Pq46
  have Aq46 : Ab Lq46 Tq46 [(7, 0)] := Ab.push Aq38 Pq46 (by decide) (by decide)
  have eq46 : Eq46 a0 = .inr (4, [.ref q2, .int v6, .int v8, .int v10, .int v12, .int v14, .int v16, .int v18, .int v20, .int v22, .ref q25, .ref q31, .ref q38, .null]) := (Pq46.2.2.1 a0 hm40).trans hu44
  have hm48 : a0 ∈ Lq46 := Pq46.1 _ hm40
  have tm48 : Tq46 a0 = (207, 0) := (Pq46.2.1 _ hm40).trans tm40
  have hm49 : q2 ∈ Lq46 := Pq46.1 _ hm41
  have tm49 : Tq46 q2 = (32, 0) := (Pq46.2.1 _ hm41).trans tm41
  have hm50 : q25 ∈ Lq46 := Pq46.1 _ hm42
  have tm50 : Tq46 q25 = (33, 0) := (Pq46.2.1 _ hm42).trans tm42
  have hm51 : q31 ∈ Lq46 := Pq46.1 _ hm43
  have tm51 : Tq46 q31 = (34, 0) := (Pq46.2.1 _ hm43).trans tm43
  have hm52 : q38 ∈ Lq46 := Pq46.1 _ Pq38.2.2.2.1
  have tm52 : Tq46 q38 = (35, 0) := (Pq46.2.1 _ Pq38.2.2.2.1).trans Pq38.2.2.2.2.1
  refine tr_putR Z.1 Z.2.2.2.1 Sq46 hm48 tm48 rfl rfl rfl eq46 rfl (fun _ h => List.mem_cons_of_mem _ (List.mem_append_right _ h)) tyX5_ok nmX5 13 (by decide) (Nat.le_of_ble_eq_true rfl) (Or.inr ⟨hnm, rfl, rfl⟩) (hts _ (List.mem_of_getElem? (i := 19) rfl)) dX5_init_85 rfl rfl (fun Eu53 Hu53 ku53 Su53 ou53 gu53 => ?_)
  have hu53 : Eu53 a0 = .inr (4, [.ref q2, .int v6, .int v8, .int v10, .int v12, .int v14, .int v16, .int v18, .int v20, .int v22, .ref q25, .ref q31, .ref q38, .ref q46]) := gu53
  have Wu53 : Gr a0 [(36, 0), (35, 0), (34, 0), (33, 0), (32, 0)] L τ E Lq46 Tq46 Eu53 := Gr.wr Wq46 ou53 (Or.inl rfl)
  have IR : Inv TB cy Lq46 (upT Tq46 a0 (7, 0)) Eu53 := inv_role Su53.2 tm48 (by decide) (fun _ => Ab.ne Aq46 (by decide)) (fun ci ts h => by
      have h : some ((4 : Nat), ([(1, 32, 0), (0, 0, 120), (0, 0, 120), (0, 0, 120), (0, -2147483648, 2147483647), (0, -2147483648, 2147483647), (0, 0, 1), (0, 0, 1), (0, 0, 4), (0, 0, 64), (1, 33, 0), (1, 34, 0), (1, 35, 0), (1, 36, 0)] : List Ft)) = some (ci, ts) := h
      cases h
      exact okO_of hu53 ⟨⟨q2, rfl, hm49, (upT_ne (ne_ro tm49 tm48 (by decide))).trans tm49⟩, ⟨v6, rfl, by dsimp only; omega, by dsimp only; omega⟩, ⟨v8, rfl, by dsimp only; omega, by dsimp only; omega⟩, ⟨v10, rfl, by dsimp only; omega, by dsimp only; omega⟩, ⟨v12, rfl, by dsimp only; omega, by dsimp only; omega⟩, ⟨v14, rfl, by dsimp only; omega, by dsimp only; omega⟩, ⟨v16, rfl, by dsimp only; omega, by dsimp only; omega⟩, ⟨v18, rfl, by dsimp only; omega, by dsimp only; omega⟩, ⟨v20, rfl, by dsimp only; omega, by dsimp only; omega⟩, ⟨v22, rfl, by dsimp only; omega, by dsimp only; omega⟩, ⟨q25, rfl, hm50, (upT_ne (ne_ro tm50 tm48 (by decide))).trans tm50⟩, ⟨q31, rfl, hm51, (upT_ne (ne_ro tm51 tm48 (by decide))).trans tm51⟩, ⟨q38, rfl, hm52, (upT_ne (ne_ro tm52 tm48 (by decide))).trans tm52⟩, ⟨q46, rfl, Pq46.2.2.2.1, (upT_ne (ne_ro Pq46.2.2.2.2.1 tm48 (by decide))).trans Pq46.2.2.2.2.1⟩, trivial⟩) (fun _ _ _ h => nomatch h) (fun _ _ _ h => nomatch h)
  exact en_vG Z ⟨Su53.1, IR⟩ (post := fun _ T9 E9 => T9 a0 = (7, 0) ∧ (fi E9 a0 1).toInt = 0 ∧ (fi E9 a0 4).toInt = 0) (Gr.role Wu53 ha0) ⟨upT_self _ _ _, (by rw [show fi Eu53 a0 1 = v6 by simp only [fi, fv, hu53]; rfl]; omega), (by rw [show fi Eu53 a0 4 = v12 by simp only [fi, fv, hu53]; rfl]; omega)⟩ dX5_init_88

theorem dX0_init_0 : decode cX0_init 0 = .ok (.aload_n 0, 1) := by decide +kernel
theorem dX0_init_1 : decode cX0_init 1 = .ok (.invokespecial 3, 3) := by decide +kernel
theorem dX0_init_4 : decode cX0_init 4 = .ok (.aload_n 0, 1) := by decide +kernel
theorem dX0_init_5 : decode cX0_init 5 = .ok (.bipush 12, 2) := by decide +kernel
theorem dX0_init_7 : decode cX0_init 7 = .ok (.newarray .int, 2) := by decide +kernel
theorem dX0_init_9 : decode cX0_init 9 = .ok (.putfield 11, 3) := by decide +kernel
theorem dX0_init_12 : decode cX0_init 12 = .ok (.aload_n 0, 1) := by decide +kernel
theorem dX0_init_13 : decode cX0_init 13 = .ok (.sipush 4096, 3) := by decide +kernel
theorem dX0_init_16 : decode cX0_init 16 = .ok (.newarray .int, 2) := by decide +kernel
theorem dX0_init_18 : decode cX0_init 18 = .ok (.putfield 15, 3) := by decide +kernel
theorem dX0_init_21 : decode cX0_init 21 = .ok (.aload_n 0, 1) := by decide +kernel
theorem dX0_init_22 : decode cX0_init 22 = .ok (.iconst 0, 1) := by decide +kernel
theorem dX0_init_23 : decode cX0_init 23 = .ok (.putfield 18, 3) := by decide +kernel
theorem dX0_init_26 : decode cX0_init 26 = .ok (.return_, 1) := by decide +kernel
set_option maxHeartbeats 4000000 in
set_option maxRecDepth 100000 in
theorem k_X0_init_0 (l : Launch) (D : va_G) (cy : Nat → ClassId) {L : List Nat} {τ : Nat → Ro} {E : Ec} (hI : Inv TB cy L τ E) {a0 : Nat} (ha0 : a0 ∈ L) (ta0 : τ a0 = (209, 0)) (he0 : E a0 = .inr (0, [.null, .null, .int 0])) (hab0 : Ab L τ [(9, 0), (39, 0), (31, 0)]) : CtG l yX0_init wsX0_init { frames := 1, cells := 2, slots := 4108, locals := 20 } D cy L τ E [.ref a0] a0 [(31, 0), (39, 0)] 2 4108 (fun L' τ' E' => τ' a0 = (9, 0) ∧ (fi E' a0 2).toInt = 0) := by
  intro sz
  refine staG (cc := cX0_init) (maxL := 1) hI (by decide) rfl (Nat.le_of_ble_eq_true rfl) (fun p e s m args below meth c ls hsz hnm Z hO S0 hl => ?_)
  have hx := Z.1.1
  have hb := Z.1.2.1
  have hts := Z.1.2.2.2.2
  have hnm : meth.name = "<init>" := hnm
  have G0 : Gr a0 [] L τ E L τ E := Gr.refl
  have hl : lv_has ls 1 [(0, .ref a0)] := hl
  refine lv_aload_n hx hb dX0_init_0 rfl (lv_at hl 0 rfl) ?_
  refine tr_obj Z.1 hl.1 (hts _ (List.mem_of_getElem? (i := 1) rfl)) (hts _ (List.mem_of_getElem? (i := 2) rfl)) (hts _ (List.mem_of_getElem? (i := 3) rfl)) dX0_init_1 (Nat.le_of_ble_eq_true rfl) (Nat.le_of_ble_eq_true rfl) ?_
  refine lv_aload_n hx hb dX0_init_4 rfl (lv_at hl 0 rfl) ?_
  obtain ⟨v1, ev1, tv1⟩ : ∃ v : Int32, (Int8.ofInt (12)).toInt32 = v ∧ v.toInt = 12 := ⟨_, rfl, by decide +kernel⟩
  refine lv_bipush hx hb dX0_init_5 ev1 ?_
  refine tr_newi Z.1 Z.2.2.2.1 Z.2.2.2.2.2 S0 (hts _ (List.mem_of_getElem? (i := 4) rfl)) rfl 0 rfl 12 (by omega) (vc_ty _ rfl _) (Nat.le_of_ble_eq_true rfl) (39, 0) rfl rfl rfl (fun i => ⟨(by decide : (-2147483648 : Int) ≤ 0), (by decide : (0 : Int) ≤ 2147483647)⟩) (fun _ => Ab.ne hab0 (by decide)) (Nat.le_of_ble_eq_true rfl) (Nat.le_of_ble_eq_true rfl) dX0_init_7 (fun Lq2 Tq2 Eq2 q2 Hq2 Sq2 Pq2 => ?_)
  have Wq2 : Gr a0 [(39, 0)] L τ E Lq2 Tq2 Eq2 := Gr.push G0 Pq2
  have f3 : q2 ∉ L := Gr.fresh G0 Pq2
  have Aq2 : Ab Lq2 Tq2 [(9, 0), (31, 0)] := Ab.push hab0 Pq2 (by decide) (by decide)
  have eq2 : Eq2 a0 = .inr (0, [.null, .null, .int 0]) := (Pq2.2.2.1 a0 ha0).trans he0
  have hm4 : a0 ∈ Lq2 := Pq2.1 _ ha0
  have tm4 : Tq2 a0 = (209, 0) := (Pq2.2.1 _ ha0).trans ta0
  refine tr_putR Z.1 Z.2.2.2.1 Sq2 hm4 tm4 rfl rfl rfl eq2 rfl (fun _ h => List.mem_cons_of_mem _ (List.mem_append_right _ h)) tyX0_ok nmX0 0 (by decide) (Nat.le_of_ble_eq_true rfl) (Or.inr ⟨hnm, rfl, rfl⟩) (hts _ (List.mem_of_getElem? (i := 5) rfl)) dX0_init_9 rfl rfl (fun Eu5 Hu5 ku5 Su5 ou5 gu5 => ?_)
  have hu5 : Eu5 a0 = .inr (0, [.ref q2, .null, .int 0]) := gu5
  have Wu5 : Gr a0 [(39, 0)] L τ E Lq2 Tq2 Eu5 := Gr.wr Wq2 ou5 (Or.inl rfl)
  refine lv_aload_n hx hb dX0_init_12 rfl (lv_at hl 0 rfl) ?_
  obtain ⟨v6, ev6, tv6⟩ : ∃ v : Int32, (Int16.ofInt (4096)).toInt32 = v ∧ v.toInt = 4096 := ⟨_, rfl, by decide +kernel⟩
  refine lv_sipush hx hb dX0_init_13 ev6 ?_
  refine tr_newi Z.1 Z.2.2.2.1 Z.2.2.2.2.2 Su5 (hts _ (List.mem_of_getElem? (i := 4) rfl)) rfl 0 rfl 4096 (by omega) (vc_ty _ rfl _) (Nat.le_of_ble_eq_true rfl) (31, 0) rfl rfl rfl (fun i => ⟨(by decide : (-2147483648 : Int) ≤ 0), (by decide : (0 : Int) ≤ 2147483647)⟩) (fun _ => Ab.ne Aq2 (by decide)) (Nat.le_of_ble_eq_true rfl) (Nat.le_of_ble_eq_true rfl) dX0_init_16 (fun Lq7 Tq7 Eq7 q7 Hq7 Sq7 Pq7 => ?_)
  have Wq7 : Gr a0 [(31, 0), (39, 0)] L τ E Lq7 Tq7 Eq7 := Gr.push Wu5 Pq7
  have f8 : q7 ∉ L := Gr.fresh Wu5 Pq7
  have Aq7 : Ab Lq7 Tq7 [(9, 0)] := Ab.push Aq2 Pq7 (by decide) (by decide)
  have eq7 : Eq7 a0 = .inr (0, [.ref q2, .null, .int 0]) := (Pq7.2.2.1 a0 hm4).trans hu5
  have hm9 : a0 ∈ Lq7 := Pq7.1 _ hm4
  have tm9 : Tq7 a0 = (209, 0) := (Pq7.2.1 _ hm4).trans tm4
  have hm10 : q2 ∈ Lq7 := Pq7.1 _ Pq2.2.2.2.1
  have tm10 : Tq7 q2 = (39, 0) := (Pq7.2.1 _ Pq2.2.2.2.1).trans Pq2.2.2.2.2.1
  refine tr_putR Z.1 Z.2.2.2.1 Sq7 hm9 tm9 rfl rfl rfl eq7 rfl (fun _ h => List.mem_cons_of_mem _ (List.mem_append_right _ h)) tyX0_ok nmX0 1 (by decide) (Nat.le_of_ble_eq_true rfl) (Or.inr ⟨hnm, rfl, rfl⟩) (hts _ (List.mem_of_getElem? (i := 6) rfl)) dX0_init_18 rfl rfl (fun Eu11 Hu11 ku11 Su11 ou11 gu11 => ?_)
  have hu11 : Eu11 a0 = .inr (0, [.ref q2, .ref q7, .int 0]) := gu11
  have Wu11 : Gr a0 [(31, 0), (39, 0)] L τ E Lq7 Tq7 Eu11 := Gr.wr Wq7 ou11 (Or.inl rfl)
  refine lv_aload_n hx hb dX0_init_21 rfl (lv_at hl 0 rfl) ?_
  obtain ⟨v12, ev12, tv12⟩ : ∃ v : Int32, Int32.ofInt (0) = v ∧ v.toInt = 0 := ⟨_, rfl, by decide +kernel⟩
  refine lv_iconst hx hb dX0_init_22 ev12 ?_
  refine tr_putR Z.1 Z.2.2.2.1 Su11 hm9 tm9 rfl rfl rfl hu11 rfl (fun _ h => List.mem_cons_of_mem _ (List.mem_append_right _ h)) tyX0_ok nmX0 2 (by decide) (Nat.le_of_ble_eq_true rfl) (Or.inl rfl) (hts _ (List.mem_of_getElem? (i := 7) rfl)) dX0_init_23 rfl rfl (fun Eu13 Hu13 ku13 Su13 ou13 gu13 => ?_)
  have hu13 : Eu13 a0 = .inr (0, [.ref q2, .ref q7, .int v12]) := gu13
  have Wu13 : Gr a0 [(31, 0), (39, 0)] L τ E Lq7 Tq7 Eu13 := Gr.wr Wu11 ou13 (Or.inl rfl)
  have IR : Inv TB cy Lq7 (upT Tq7 a0 (9, 0)) Eu13 := inv_role Su13.2 tm9 (by decide) (fun _ => Ab.ne Aq7 (by decide)) (fun ci ts h => by
      have h : some ((0 : Nat), ([(1, 39, 0), (1, 31, 0), (0, 0, 12)] : List Ft)) = some (ci, ts) := h
      cases h
      exact okO_of hu13 ⟨⟨q2, rfl, hm10, (upT_ne (ne_ro tm10 tm9 (by decide))).trans tm10⟩, ⟨q7, rfl, Pq7.2.2.2.1, (upT_ne (ne_ro Pq7.2.2.2.2.1 tm9 (by decide))).trans Pq7.2.2.2.2.1⟩, ⟨v12, rfl, by dsimp only; omega, by dsimp only; omega⟩, trivial⟩) (fun _ _ _ h => nomatch h) (fun _ _ _ h => nomatch h)
  exact en_vG Z ⟨Su13.1, IR⟩ (post := fun _ T9 E9 => T9 a0 = (9, 0) ∧ (fi E9 a0 2).toInt = 0) (Gr.role Wu13 ha0) ⟨upT_self _ _ _, (by rw [show fi Eu13 a0 2 = v12 by simp only [fi, fv, hu13]; rfl]; omega)⟩ dX0_init_26

