/-! a word stands in the text just where its packed form is there (p14, p34) -/
theorem wdS_ok : ∀ i : Nat, i < 11 → (∀ x ∈ wdS.getD i [], 97 ≤ x ∧ x ≤ 122) ∧ (wdS.getD i []).length = lenS.getD i 0 ∧ 3 ≤ lenS.getD i 0 ∧ lenS.getD i 0 ≤ 6 := by decide
theorem wdS_byt : ∀ i : Nat, i < 11 → ∀ j : Nat, j < 6 → ((bytS.getD i []).getD j 0).toInt = (wdS.getD i []).getD j 0 := by decide +kernel
theorem stand_iff {B : Nat → Int} {n p i : Nat} {a : Int} (hi : i < 11) (ha : a = ((ltI B n p : Nat) : Int) - (p : Int)) : (a = ((lenS.getD i 0 : Nat) : Int) ∧ a + (p : Int) ≤ (n : Int) ∧ ∀ j : Nat, j < lenS.getD i 0 → B (p + j) = ((bytS.getD i []).getD j 0).toInt) ↔ wdI B n p = wV i := by
  obtain ⟨h1, h2, h3, h4⟩ := wdS_ok i hi
  have hb := wdS_byt i hi
  unfold wV
  generalize wdS.getD i [] = W at h1 h2 hb ⊢
  cases W with
  | nil =>
    have h2 : 0 = lenS.getD i 0 := h2
    omega
  | cons c cs =>
    have e := wv_iff (B := B) (n := n) (p := p) h1 (by omega)
    constructor
    · rintro ⟨q1, q2, q3⟩
      exact e.mpr ⟨by omega, fun j hj => (q3 j (by omega)).trans (hb j (by omega))⟩
    · intro q
      obtain ⟨q1, q2⟩ := e.mp q
      refine ⟨by omega, ?_, fun j hj => (q2 j (by omega)).trans (hb j (by omega)).symm⟩
      have z := run_in (Q := qS) (B := B) (n := n) p (p + (c :: cs).length - 1) (by omega) (by show _ < ltI B n p; omega)
      omega
