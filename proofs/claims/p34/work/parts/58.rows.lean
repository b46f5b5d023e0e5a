section LROWS
variable {p : Program} {l : Launch} {e : Env} {R : Room} {s : State} {m : MethodId} {args : Array Value} {below : List Frame} {meth : Method} {c : Code} {H : Heap} {locs : List Loc} {cells slots : Nat} {Q : State → Prop}
variable {cc : ByteArray} {pc nL : Nat} {ls : Array Slot} {rest st : List Value} {D : va_G} {A : Nat → Prop} {a : Nat} {Ts : List Cond} {own : String} {cy : Nat → ClassId} {L : List Nat} {τ : Nat → Ro} {E : Ec} {G : Sg} {y : MethodName} {w : List Cond} {rm : Room}
theorem tc_Lvi (C : CallFix p m c cc nL s args Ts own) (hK : va_K D vwCl (tysL cy) s) (hN : Nx s) (hA : ∀ q, s.heap.size ≤ q → A q) (hZ : SW G A s s.heap) (S : NowG D cy A s L τ E H locs) (ha : a ∈ L) {r : Ro} (hτ : τ a = r) {ci : Nat} {ts : List Ft} (hr : tObj r = some (ci, ts)) {q : vw_C} (hc : vwCl[ci]? = some q) {mc ms x : Nat} {wr : Ro → Bool} {post : Int32 → List Nat → (Nat → Ro) → Ec → Prop} {As : List Value} (hM : CtL1i G l y w rm D cy L τ E (.ref a :: As) x wr mc ms post) {index n maxL : Nat} {bytes : ByteArray} {ret : Option FieldType} (cw : CallW R s args own q.1 index y bytes maxL ret w rm mc ms n) (hn : As.length = n) (hz : ls.size = nL) (hst : st = As.reverse ++ .ref a :: rest) (hro : (rest.map fun v => v.category).sum ≤ 8) (hdg : decode cc pc = .ok (.invokevirtual index, 3)) (hf : cells + mc ≤ R.cells ∧ slots + ms ≤ R.slots)
    (kk : ∀ (v : Int32) (L' : List Nat) (τ' : Nat → Ro) (E' : Ec) (H1 : Heap) (locs1 : List Loc), NowG D cy A s L' τ' E' H1 locs1 → GL x wr L τ E L' τ' E' → post v L' τ' E' → W p l e R s m args below meth c H1 locs1 (cells + mc) (slots + ms) Q (F0 m (pc + 3) ls (.int v :: rest))) : W p l e R s m args below meth c H locs cells slots Q (F0 m pc ls st) := by
  subst hst
  obtain ⟨hW, hI⟩ := S
  have hFc := fr_A hW hA
  refine va_calli (va_runV (As := As) (rest := rest) C (hM H.size) cw ⟨blind1, rv_at hK hW hI ha hτ hr hc, pre_at1 hK hN hA hZ hW⟩ rfl hn hz rfl (lv_room hro) hdg hf) hW.2.2 (fun q _ h => hFc q h) hFc (fun v Y t H1 locs1 ht hvm hp hB hz1 hk1 hS => ?_)
  obtain ⟨hP1, -, hD1⟩ := hB
  rw [ht] at hP1
  exact kk v Y.1 Y.2.1 Y.2.2 H1 locs1 ⟨⟨hP1, hD1.weaken (fun k q _ h => hFc _ h), hS⟩, hp.1⟩ hp.2.1 hp.2.2
theorem pre_atU {tx : String} {sa : Nat} {cL : ClassId} {av : List Value} (hK : va_K D vwCl (tysL cy) s) (hN : Nx s) (hA : ∀ q, s.heap.size ≤ q → A q) (hZ : TX tx sa A s s.heap) (hKL : va_K D vwCl [(cL, .long)] s) (hW : Wd D A s.heap L E H locs) : ∀ U : State, U.heap = H → s.WarmedH U.vm → preU tx sa cL D cy L E H.size av av.toArray U := fun U hU hW1 =>
  ⟨rfl, by rw [hU], ⟨by rw [hU]; exact hW.1, va_K.moved hW1.alike hK, hW.2.1.weaken (fun _ _ _ _ => trivial)⟩, Nx.warm hW1 hN, by rw [hU]; exact ((hZ.kept hW.2.2.2.1).narrow (fr_A hW hA)).warm hW1, va_K.moved hW1.alike hKL⟩
theorem LI.told {cL : ClassId} {E' : Ec} {x mm ao : Nat} (J : LI cL L τ E x mm ao) (hI : Inv TB cy L τ E) (hI' : Inv TB cy L τ E') (hF : Fr L τ (inW [(250, 0)]) E E') (h : ∃ f' : Nat → Int64, E' ao = .inl (cL, 1, .inr (.inl f'))) : LI cL L τ E' x mm ao := by
  obtain ⟨jx, jm, ⟨ja, ta, f, ef⟩, jc, js, jr⟩ := J
  refine ⟨jx, jm, ⟨ja, ta, h⟩, jc.fw hI hI' jm.1 jm.2 hF rfl rfl ?_, SlotOK.fr hF rfl rfl rfl rfl js, jr⟩
  simp only [fi, fv, hF mm jm.1 (by rw [jm.2]; rfl)]
end LROWS
