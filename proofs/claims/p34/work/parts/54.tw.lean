/-! WHAT A THROW NEEDS -/
abbrev exT : String := "java/util/NoSuchElementException"
abbrev exN : List String := ["java/lang/RuntimeException", "java/lang/Exception"]
abbrev exI (c : String) : MethodName := ⟨c, "<init>", "(Ljava/lang/String;)V"⟩
def TWs (U : State) : Prop := va_Nw (.declares (exI "java/lang/RuntimeException")) U ∧ va_Nw (.declares (exI "java/lang/Exception")) U ∧ va_Nw (.declares (exI "java/lang/Throwable")) U ∧ va_Nw (.castable exT exT) U
def TX (tx : String) (sa : Nat) (A : Nat → Prop) (U : State) (H : Heap) : Prop := vx_Zq Jvm.Bundle.tN "UNASSIGNED_STACK" Jvm.Bundle.steD A U H ∧ vx_Zq Jvm.Bundle.tN "SUPPRESSED_SENTINEL" Jvm.Bundle.listD A U H ∧ vk_R RX9 279 tx sa U ∧ TWs U
theorem TWs.warm {s U : State} (hW : s.WarmedH U.vm) (h : TWs s) : TWs U := ⟨va_Nw.warmD hW h.1, va_Nw.warmD hW h.2.1, va_Nw.warmD hW h.2.2.1, va_Nw.warmC hW h.2.2.2⟩
theorem TWs.same {u U : State} (hv : U.vm = u.vm) (h : TWs u) : TWs U := ⟨va_Nw.same rfl hv.symm h.1, va_Nw.same rfl hv.symm h.2.1, va_Nw.same rfl hv.symm h.2.2.1, va_Nw.same rfl hv.symm h.2.2.2⟩
theorem TX.kept {tx : String} {sa : Nat} {A : Nat → Prop} {U : State} {H H1 : Heap} (h : TX tx sa A U H) (hq : ∀ a : Nat, a < H.size → ¬ A a → H1[a]? = H[a]?) : TX tx sa A U H1 := ⟨h.1.kept hq, h.2.1.kept hq, h.2.2⟩
theorem TX.narrow {tx : String} {sa : Nat} {A B : Nat → Prop} {U : State} {H : Heap} (h : TX tx sa A U H) (hq : ∀ a : Nat, B a → A a) : TX tx sa B U H := ⟨h.1.narrow hq, h.2.1.narrow hq, h.2.2⟩
theorem TX.warm {tx : String} {sa : Nat} {A : Nat → Prop} {s U : State} {H : Heap} (hW : s.WarmedH U.vm) (h : TX tx sa A s H) : TX tx sa A U H := ⟨h.1.moved hW.alike, h.2.1.moved hW.alike, h.2.2.1.warm hW, h.2.2.2.warm hW⟩
theorem TX.same {tx : String} {sa : Nat} {A : Nat → Prop} {u U : State} {H : Heap} (hv : U.vm = u.vm) (h : TX tx sa A u H) : TX tx sa A U H := ⟨h.1.moved (by rw [hv]; exact Vm.Alike.refl _), h.2.1.moved (by rw [hv]; exact Vm.Alike.refl _), h.2.2.1.same hv, h.2.2.2.same hv⟩
abbrev preT (tx : String) (sa : Nat) (D : va_G) (cy : Nat → ClassId) (L : List Nat) (E : Ec) (sz : Nat) (av : List Value) : Array Value → State → Prop := va_Pc av (fun U => U.heap.size = sz ∧ Bw D cy L (fun _ => True) E U ∧ Nx U ∧ TX tx sa (va_A (va_pl L E) sz) U U.heap)
theorem blindT {tx : String} {sa : Nat} {D : va_G} {cy : Nat → ClassId} {L : List Nat} {E : Ec} {sz : Nat} {av : List Value} : FrameBlind (preT tx sa D cy L E sz av) := fun a U g mk q => by
  obtain ⟨q0, q1, ⟨qP, qK, qD⟩, qN, qS⟩ := q
  exact ⟨q0, q1, ⟨qP, va_K.moved (u := U) (U := U.calling g mk a) (Vm.Alike.refl U.vm) qK, qD⟩, Nx.same (s := U) (U := U.calling g mk a) rfl qN, TX.same (u := U) (U := U.calling g mk a) rfl qS⟩
/-- told: the number, or the exception; nothing is written -/
abbrev toQ (D : va_G) (cy : Nat → ClassId) (L : List Nat) (τ : Nat → Ro) (E : Ec) (sz : Nat) : Array Value → State → Outcome → State → Prop := va_Qi (fun _ E' => Inv TB cy L τ E' ∧ Fr L τ (fun _ => false) E E' ∧ True) (Bw D cy L (va_A (va_pl L E) sz)) (va_A (va_pl L E) sz)
abbrev toX (D : va_G) (cy : Nat → ClassId) (L : List Nat) (τ : Nat → Ro) (E : Ec) (sz : Nat) : String → State → State → Prop := vx_X (fun E' : Ec => Inv TB cy L τ E' ∧ Fr L τ (fun _ => false) E E') (fun En E' t => En = exT ∧ Bw D cy L (va_A (va_pl L E) sz) E' t) (va_A (va_pl L E) sz)
