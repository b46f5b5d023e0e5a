set_option maxRecDepth 20000 in
theorem ggL_told_X9_told : GoodIn wsL_told wsX9_told := goodIn_ca (goodIn_r _ [6, 7, 8, 9, 10, 11, 12, 5, 13, 14, 15, 16, 17, 18, 19, 20, 21, 22, 23, 24] (by decide +kernel) (by decide +kernel)) (goodIn_sub (fun _ h => List.mem_cons_of_mem _ (List.mem_append_right _ h)) (by decide +kernel))
set_option maxRecDepth 20000 in
theorem gL_told_X9_told : GoodIn wsL_told (wsV RL 7 RX9 yX9_told wsX9_told) := goodIn_app (goodIn_of _ (by decide +kernel)) ggL_told_X9_told
theorem dL_told_0 : decode cL_told 0 = .ok (.aload_n 2, 1) := by decide +kernel
theorem dL_told_1 : decode cL_told 1 = .ok (.iconst 0, 1) := by decide +kernel
theorem dL_told_2 : decode cL_told 2 = .ok (.aload_n 0, 1) := by decide +kernel
theorem dL_told_3 : decode cL_told 3 = .ok (.iload_n 1, 1) := by decide +kernel
theorem dL_told_4 : decode cL_told 4 = .ok (.invokevirtual 7, 3) := by decide +kernel
theorem dL_told_7 : decode cL_told 7 = .ok (.i2l, 1) := by decide +kernel
theorem dL_told_8 : decode cL_told 8 = .ok (.lastore, 1) := by decide +kernel
theorem dL_told_9 : decode cL_told 9 = .ok (.goto 6, 3) := by decide +kernel
theorem dL_told_12 : decode cL_told 12 = .ok (.astore_n 3, 1) := by decide +kernel
theorem dL_told_13 : decode cL_told 13 = .ok (.iconst 1, 1) := by decide +kernel
theorem dL_told_14 : decode cL_told 14 = .ok (.ireturn, 1) := by decide +kernel
theorem dL_told_15 : decode cL_told 15 = .ok (.iconst 0, 1) := by decide +kernel
theorem dL_told_16 : decode cL_told 16 = .ok (.ireturn, 1) := by decide +kernel
section LTOLD
variable {p : Program} {l : Launch} {e : Env} {R : Room} {s : State} {m : MethodId} {args : Array Value} {below : List Frame} {meth : Method} {c : Code} {H : Heap} {locs : List Loc} {cells slots : Nat} {Q : State → Prop}
variable {cc : ByteArray} {pc nL : Nat} {ls : Array Slot} {rest st : List Value} {D : va_G} {A : Nat → Prop} {a : Nat} {H0 : Heap} {Ts : List Cond} {own : String} {cy : Nat → ClassId} {L : List Nat} {τ : Nat → Ro} {E : Ec}
/-- a long is written into a cell of no table -/
theorem tr_last (C : CallFix p m c cc nL s args Ts own) {cL : ClassId} (hK : va_K D vwCl [(cL, .long)] s) (S : NowG D cy A s L τ E H locs) (ha : a ∈ L) {r : Ro} (hτ : τ a = r) (h1 : tObj r = none) (h2 : tInt r = none) (h3 : tRef r = none) {n : Nat} {f : Nat → Int64} (he : E a = .inl (cL, n, .inr (.inl f))) {i : Int32} {x : Int64} (hi1 : 0 ≤ i.toInt) (hi2 : i.toInt < n) (hdg : decode cc pc = .ok (.lastore, 1))
    (kk : ∀ (E' : Ec) (H1 : Heap) (locs1 : List Loc), NowG D cy A s L τ E' H1 locs1 → (∀ b, b ≠ a → E' b = E b) → (∃ f' : Nat → Int64, E' a = .inl (cL, n, .inr (.inl f'))) → W p l e R s m args below meth c H1 locs1 cells slots Q (F0 m (pc + 1) ls rest)) : W p l e R s m args below meth c H locs cells slots Q (F0 m pc ls (.long x :: .int i :: .ref a :: rest)) := by
  obtain ⟨hx, hb, hml, hown, hts⟩ := C
  obtain ⟨⟨hP, hD, hS⟩, hI⟩ := S
  subst hτ
  obtain ⟨j, hj⟩ := pl_at (E := E) ha
  have hj' := hj
  rw [he] at hj
  refine va_last hx hb hK hP hD hS j 0 hj rfl (tr_in hi1 hi2) hdg (fun H1 locs1 hP1 hD1 hS1 => ?_)
  rw [pl_put hD ha hj'] at hP1 hD1
  exact kk _ H1 locs1 ⟨⟨hP1, hD1, hS1⟩, inv_raw hI h1 h2 h3⟩ (fun b hb => va_up_ne _ _ hb) ⟨_, va_up_self _ _ _⟩
theorem pre_atT {tx : String} {sa : Nat} {av : List Value} (hK : va_K D vwCl (tysL cy) s) (hN : Nx s) (hA : ∀ q, s.heap.size ≤ q → A q) (hZ : TX tx sa A s s.heap) (hW : Wd D A s.heap L E H locs) : ∀ U : State, U.heap = H → s.WarmedH U.vm → preT tx sa D cy L E H.size av av.toArray U := fun U hU hW1 =>
  ⟨rfl, by rw [hU], ⟨by rw [hU]; exact hW.1, va_K.moved hW1.alike hK, hW.2.1.weaken (fun _ _ _ _ => trivial)⟩, Nx.warm hW1 hN, by rw [hU]; exact ((hZ.kept hW.2.2.2.1).narrow (fr_A hW hA)).warm hW1⟩
end LTOLD
abbrev preU (tx : String) (sa : Nat) (cL : ClassId) (D : va_G) (cy : Nat → ClassId) (L : List Nat) (E : Ec) (sz : Nat) (av : List Value) : Array Value → State → Prop := va_Pc av (fun U => U.heap.size = sz ∧ Bw D cy L (fun _ => True) E U ∧ Nx U ∧ TX tx sa (va_A (va_pl L E) sz) U U.heap ∧ va_K D vwCl [(cL, .long)] U)
theorem blindU {tx : String} {sa : Nat} {cL : ClassId} {D : va_G} {cy : Nat → ClassId} {L : List Nat} {E : Ec} {sz : Nat} {av : List Value} : FrameBlind (preU tx sa cL D cy L E sz av) := fun a U g mk q => by
  obtain ⟨q0, q1, ⟨qP, qK, qD⟩, qN, qS, qL⟩ := q
  exact ⟨q0, q1, ⟨qP, va_K.moved (u := U) (U := U.calling g mk a) (Vm.Alike.refl U.vm) qK, qD⟩, Nx.same (s := U) (U := U.calling g mk a) rfl qN, TX.same (u := U) (U := U.calling g mk a) rfl qS, va_K.moved (u := U) (U := U.calling g mk a) (Vm.Alike.refl U.vm) qL⟩
abbrev tuQ (cL : ClassId) (D : va_G) (cy : Nat → ClassId) (L : List Nat) (τ : Nat → Ro) (E : Ec) (ao sz : Nat) : Array Value → State → Outcome → State → Prop := va_Qi (fun _ E' => Inv TB cy L τ E' ∧ Fr L τ (inW [(250, 0)]) E E' ∧ ∃ f' : Nat → Int64, E' ao = .inl (cL, 1, .inr (.inl f'))) (Bw D cy L (va_A (va_pl L E) sz)) (va_A (va_pl L E) sz)
abbrev noX (D : va_G) (cy : Nat → ClassId) (L : List Nat) (E : Ec) (sz : Nat) : String → State → State → Prop := vx_X (fun _ : Ec => True) (fun _ _ _ => False) (va_A (va_pl L E) sz)
set_option maxHeartbeats 4000000 in
set_option maxRecDepth 100000 in
theorem k_L_told (l : Launch) (hlt : l.stackTraces = false) (D : va_G) (cy : Nat → ClassId) {tx : String} {sa : Nat} {cL : ClassId} {L : List Nat} {τ : Nat → Ro} {E : Ec} (hI : Inv TB cy L τ E) {a0 : Nat} (ha0 : a0 ∈ L) (ta0 : τ a0 = (0, 0)) (a1 : Int32) {ao : Nat} (hao : ao ∈ L) (tao : τ ao = (250, 0)) {f : Nat → Int64} (he : E ao = .inl (cL, 1, .inr (.inl f))) (sz : Nat) : vx_Met l yL_told wsL_told { frames := 7, cells := 1, slots := 6, locals := 120 } (preU tx sa cL D cy L E sz [.ref a0, .int a1, .ref ao]) (tuQ cL D cy L τ E ao sz) (noX D cy L E sz) 1 6 (va_A (va_pl L E) sz) := by
  refine vx_ofWH (cc := cL_told) (maxL := 4) (ret := some .int) (by decide) rfl ?_
  intro p e s m args below meth c s₁ B hml hv
  obtain ⟨rfl, hsz, ⟨hP, hK, hD0⟩, hN, SZ, hKL⟩ := hv
  have hts0 := atoms_spec (ws := wsL_told) B.pre
  have htab := vx_table (x := yL_told) B (hts0 _ List.mem_cons_self)
  have hown : s.vm.findClass yL_told.cls = some m.cls := findClass_of_methodNamed B.named
  have hlv := lv_entry [.ref a0, .int a1, .ref ao] (n := 4) (Nat.le_of_ble_eq_true rfl)
  rw [lg_entry_eq]
  generalize (lg_sl [Value.ref a0, Value.int a1, Value.ref ao] ++ List.replicate (4 - (lg_sl [Value.ref a0, Value.int a1, Value.ref ao]).length) Slot.unset).toArray = ls at hlv ⊢
  generalize hargs : ([Value.ref a0, Value.int a1, Value.ref ao] : List Value).toArray = args at *
  have Z : Amb p m meth c cL_told 4 s args wsL_told yL_told.cls (some .int) D cy (va_A (va_pl L E) sz) := ⟨⟨B.exec, B.bytes, hml, hown, hts0⟩, B.returns, B.notSynchronized, hK, hN, fun q h => Or.inr (by omega)⟩
  have S0 : NowG D cy (va_A (va_pl L E) sz) s L τ E s.heap [] := ⟨⟨hP, hD0.self, va_S.rf⟩, hI⟩
  have hx := Z.1.1
  have hb := Z.1.2.1
  have hts := Z.1.2.2.2.2
  have hl : lv_has ls 4 [(0, .ref a0), (1, .int a1), (2, .ref ao)] := hlv
  refine lv_aload_n hx hb dL_told_0 rfl (lv_at hl 2 rfl) ?_
  obtain ⟨v0, ev0, tv0⟩ : ∃ v : Int32, Int32.ofInt (0) = v ∧ v.toInt = 0 := ⟨_, rfl, by decide +kernel⟩
  refine lv_iconst hx hb dL_told_1 ev0 ?_
  refine lv_aload_n hx hb dL_told_2 rfl (lv_at hl 0 rfl) ?_
  refine lv_iload_n hx hb dL_told_3 rfl (lv_at hl 1 rfl) ?_
  have hFc := fr_A S0.1 Z.2.2.2.2.2
  refine vx_calli (vx_runV (As := [.int a1]) (rest := [.int v0, .ref ao]) Z.1 (k_X9_told l hlt D cy (tx := tx) (sa := sa) S0.2 ha0 ta0 a1 s.heap.size) (cwV 1 hts gL_told_X9_told rfl rfl rfl (by decide +kernel) ⟨Nat.le_of_ble_eq_true rfl, Nat.le_of_ble_eq_true rfl⟩) ⟨blindT, rv_at Z.2.2.2.1 S0.1 S0.2 ha0 ta0 rfl rfl, pre_atT Z.2.2.2.1 Z.2.2.2.2.1 Z.2.2.2.2.2 SZ S0.1⟩ rfl rfl hl.1 rfl (lv_room (Nat.le_of_ble_eq_true rfl)) dL_told_4 ⟨Nat.le_of_ble_eq_true rfl, Nat.le_of_ble_eq_true rfl⟩) S0.1.2.2 (fun q _ h => hFc q h) hFc (fun q _ h => hFc q h) ?_ ?_
  · intro En ce q9 E1 t H1 k1 ht hvm hp hB hz1 hk1 hS hce hcv hcl
    obtain ⟨rfl, hB⟩ := hB
    have S1 : NowG D cy (va_A (va_pl L E) sz) s L τ E1 H1 k1 := ⟨wd_behind S0.1 Z.2.2.2.2.2 ht hB hS, hp.1⟩
    have F1 : Fr L τ (inW [(250, 0)]) E E1 := fun a ha _ => hp.2 a ha rfl
    refine vx_catch (own := RL) (name := exT) hown [] ⟨0, 9, 12, 13⟩ [] (by rw [htab]; rfl) (fun _ h => nomatch h) (by decide) (by decide) (hts _ (List.mem_of_getElem? (i := 1) rfl)) (va_Nw.use rfl SZ.2.2.2.2.2.2) hce hcv hcl ?_
    refine lv_astore_n (lv' := [(3, .ref q9), (0, .ref a0), (1, .int a1), (2, .ref ao)]) hx hb dL_told_12 rfl hl (by decide) rfl (fun l1 hl1 => ?_)
    obtain ⟨w1, ew1, tw1⟩ : ∃ v : Int32, Int32.ofInt (1) = v ∧ v.toInt = 1 := ⟨_, rfl, by decide +kernel⟩
    refine lv_iconst hx hb dL_told_13 ew1 ?_
    refine vx_ret ?_
    exact en_i (x := w1) (post := fun _ E' => ∃ f' : Nat → Int64, E' ao = .inl (cL, 1, .inr (.inl f'))) Z S1 F1 ⟨f, (hp.2 ao hao rfl).trans he⟩ dL_told_14
  · intro r E1 t H1 k1 ht hvm hp hB hz1 hk1 hS
    have S1 : NowG D cy (va_A (va_pl L E) sz) s L τ E1 H1 k1 := ⟨wd_behind S0.1 Z.2.2.2.2.2 ht hB hS, hp.1⟩
    refine lv_i2l hx hb dL_told_7 rfl ?_
    refine tr_last Z.1 hKL S1 hao tao rfl rfl rfl ((hp.2.1 ao hao rfl).trans he) (by omega) (by rw [tv0]; decide) dL_told_8 (fun E2 H2 k2 S2 o2 g2 => ?_)
    refine lv_goto (tgt := 15) hx hb dL_told_9 (by decide) ?_
    obtain ⟨w1, ew1, tw1⟩ : ∃ v : Int32, Int32.ofInt (0) = v ∧ v.toInt = 0 := ⟨_, rfl, by decide +kernel⟩
    refine lv_iconst hx hb dL_told_15 ew1 ?_
    refine vx_ret ?_
    have F2 : Fr L τ (inW [(250, 0)]) E E2 := fun a ha hw => (o2 a (fun z => by rw [z, tao] at hw; exact nomatch hw)).trans (hp.2.1 a ha rfl)
    exact en_i (x := w1) (post := fun _ E' => ∃ f' : Nat → Int64, E' ao = .inl (cL, 1, .inr (.inl f'))) Z S2 F2 g2 dL_told_16
