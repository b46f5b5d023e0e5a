theorem va_at_kept {D : va_G} {a : Nat} {e : va_E} {H H1 : Heap} (h : va_at D vwCl (a, e) H) (hq : H1[a]? = H[a]?) : va_at D vwCl (a, e) H1 := by
  have h1 : va_P D vwCl [(a, e)] H := fun k q hk => by
    have h0 : k < 1 := (List.getElem?_eq_some_iff.mp hk).1
    rw [show k = 0 by omega] at hk
    cases hk
    exact h
  exact (h1.kept (fun k x hx => by
    have h0 : k < 1 := (List.getElem?_eq_some_iff.mp hx).1
    rw [show k = 0 by omega] at hx
    cases hx
    exact hq)) 0 _ rfl
theorem pl_P {D : va_G} {L : List Nat} {E : Ec} {H : Heap} (h : ∀ a, a ∈ L → va_at D vwCl (a, E a) H) : va_P D vwCl (va_pl L E) H := fun k q hk => by
  obtain ⟨a, ha, rfl⟩ := List.mem_map.mp (List.mem_of_getElem? hk)
  exact h a ha
theorem pl_D {A : Nat → Prop} {L : List Nat} {E : Ec} (hn : L.Nodup) (h : ∀ a ∈ L, A a) : va_D A (va_pl L E) := by
  refine ⟨fun i j x y hi hj hxy => ?_, fun k q hk => ?_⟩
  · unfold va_pl at hi hj
    rw [List.getElem?_map] at hi hj
    cases ei : L[i]? with
    | none => rw [ei] at hi; cases hi
    | some a =>
      cases ej : L[j]? with
      | none => rw [ej] at hj; cases hj
      | some b =>
        rw [ei] at hi
        rw [ej] at hj
        cases hi
        cases hj
        have hab : a = b := hxy
        subst hab
        obtain ⟨li, gi⟩ := List.getElem?_eq_some_iff.mp ei
        obtain ⟨lj, gj⟩ := List.getElem?_eq_some_iff.mp ej
        have hp := List.pairwise_iff_getElem.mp hn
        rcases Nat.lt_trichotomy i j with c | c | c
        · exact absurd (gi.trans gj.symm) (hp i j li lj c)
        · exact c
        · exact absurd (gj.trans gi.symm) (hp j i lj li c)
  · obtain ⟨a, ha, rfl⟩ := List.mem_map.mp (List.mem_of_getElem? hk)
    exact h a ha
theorem nodup_of {A : Nat → Prop} {L : List Nat} {E : Ec} (hD : va_D A (va_pl L E)) : L.Nodup := by
  refine List.pairwise_iff_getElem.mpr (fun i j li hj hij e => ?_)
  have h1 : (va_pl L E)[i]? = some (L[i], E L[i]) := by unfold va_pl; rw [List.getElem?_map, List.getElem?_eq_getElem li]; rfl
  have h2 : (va_pl L E)[j]? = some (L[j], E L[j]) := by unfold va_pl; rw [List.getElem?_map, List.getElem?_eq_getElem hj]; rfl
  have := hD.1 i j _ _ h1 h2 e
  omega
theorem mzI_cell (cB : ClassId) (M : Nat) : mzI cB M = vp_cell cB (M, .inl (fun _ => 0)) := by
  show ({ cls := cB, slots := Array.replicate M (.int 0), vm := .none } : Cell) = _
  rw [arrV_new]
  rfl
