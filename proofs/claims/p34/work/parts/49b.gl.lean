theorem GL.fr {x : Nat} {wr : Ro → Bool} {L : List Nat} {τ : Nat → Ro} {E E' : Ec} (h : Fr L τ wr E E') : GL x wr L τ E L τ E' := ⟨fun _ h => h, fun _ _ _ => rfl, fun a ha _ hw => h a ha hw, fun _ h => Or.inl h⟩
/-- a law is new, and built -/
theorem GL.law {x q : Nat} {wr : Ro → Bool} {L L2 L3 : List Nat} {τ T2 T3 : Nat → Ro} {E E1 E2 E3 : Ec} {r : Ro} (h : Fr L τ wr E E1) (P : Psh L τ E1 L2 T2 E2 q r) (g : GL q (fun _ => false) L2 T2 E2 L3 T3 E3) (hk : (T3 q).1 = 10) : GL x wr L τ E L3 T3 E3 ∧ (∀ a ∈ L, T3 a = τ a) ∧ ∀ a ∈ L, E3 a = E1 a := by
  have ne : ∀ a ∈ L, a ≠ q := fun a ha z => P.2.2.2.2.2.1 (z ▸ ha)
  have ht : ∀ a ∈ L, T3 a = τ a := fun a ha => (g.2.1 a (P.1 a ha) (ne a ha)).trans (P.2.1 a ha)
  have hE : ∀ a ∈ L, E3 a = E1 a := fun a ha => (g.2.2.1 a (P.1 a ha) (ne a ha) rfl).trans (P.2.2.1 a ha)
  refine ⟨⟨fun a ha => g.1 a (P.1 a ha), fun a ha _ => ht a ha, fun a ha _ hw => (hE a ha).trans (h a ha hw), fun b hb => ?_⟩, ht, hE⟩
  rcases g.2.2.2 b hb with y | y
  · rcases P.2.2.2.2.2.2 b y with z | z
    · exact Or.inl z
    · exact Or.inr (by rw [z]; exact Or.inl hk)
  · exact Or.inr y
/-- growth in the middle of a method -/
theorem GL.cont {x y : Nat} {wr wr1 : Ro → Bool} {L0 L : List Nat} {τ0 τ : Nat → Ro} {E0 E1 E E9 : Ec} {r : Ro} (F : Fr L0 τ0 wr E0 E1) (G : GL x wr1 L0 τ0 E1 L τ E) (hx : τ x = r) (hx0 : τ0 x = r) (hw : wr r = true) (hm : ∀ r, wr r = false → wr1 r = false) (h : Fr L τ wr E E9) : GL y wr L0 τ0 E0 L τ E9 := by
  have ht : ∀ a ∈ L0, τ a = τ0 a := fun a ha => by
    by_cases c : a = x
    · rw [c, hx, hx0]
    · exact G.2.1 a ha c
  refine ⟨G.1, fun a ha _ => ht a ha, fun a ha _ hwa => ?_, G.2.2.2⟩
  have ne : a ≠ x := fun z => by
    rw [z, hx0, hw] at hwa
    exact nomatch hwa
  exact (h a (G.1 a ha) (by rw [ht a ha]; exact hwa)).trans ((G.2.2.1 a ha ne (hm _ hwa)).trans (F a ha hwa))
