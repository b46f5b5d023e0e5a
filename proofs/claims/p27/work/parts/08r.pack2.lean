theorem foldI_le {P : Nat → Int} {S : Int} {W : Nat → Int} {s k : Nat} (h : s.testBit k = true) : ∀ n : Nat, k < n → foldI P S W s n ≤ cutI S (W (s ^^^ 2 ^ k)) (P k)
  | 0, hk => absurd hk (Nat.not_lt_zero _)
  | n + 1, hk => by
    show (if s.testBit n then min (foldI P S W s n) (cutI S (W (s ^^^ 2 ^ n)) (P n)) else foldI P S W s n) ≤ _
    by_cases c : k = n
    · subst c
      rw [if_pos h]
      omega
    · have ih := foldI_le (P := P) (S := S) (W := W) h n (by omega)
      split <;> omega
theorem bit_some_all : ∀ n : Nat, n < 13 → ∀ a : Nat, a < 64 → ∀ b : Nat, b < 64 → 64 * a + b < 2 ^ n → 0 < 64 * a + b → (List.range n).any (fun k => (64 * a + b).testBit k) = true := by decide +kernel
theorem bit_some {s n : Nat} (hn : n ≤ 12) (h : s < 2 ^ n) (h0 : 0 < s) : ∃ k : Nat, k < n ∧ s.testBit k = true := by
  have h2 : 2 ^ n ≤ 2 ^ 12 := Nat.pow_le_pow_right (by decide) hn
  have e : 64 * (s / 64) + s % 64 = s := by omega
  have q := bit_some_all n (by omega) (s / 64) (by omega) (s % 64) (by omega)
  rw [e] at q
  obtain ⟨k, hk, hb⟩ := List.any_eq_true.mp (q h h0)
  exact ⟨k, List.mem_range.mp hk, hb⟩
/-- what the reference's two rows hold of all sets below s -/
def RowsI (P : Nat → Int) (S : Int) (n : Nat) (B F : Nat → Int) (s : Nat) : Prop := ∀ t : Nat, t < s → RepI S (tabI P S n s t) (B t) (F t) ∧ 0 ≤ B t ∧ B t ≤ cntI t n
theorem RowsI.one {P : Nat → Int} {S : Int} {n : Nat} {B F : Nat → Int} (hS : 1 ≤ S) (hB : B 0 = 0) (hF : F 0 = S) : RowsI P S n B F 1 := fun t ht => by
  have : t = 0 := by omega
  subst this
  rw [tabI_zero, hB, hF]
  exact ⟨⟨by omega, hS, Int.le_refl _⟩, Int.le_refl _, (cntI_le 0 n).1⟩
/-- the inner loop's step at a piece of the set -/
theorem RowsI.step {P : Nat → Int} {S : Int} {n s k : Nat} {B F : Nat → Int} {b0 f0 : Int} (R : RowsI P S n B F s) (hS : S ≤ 10000) (hn : n ≤ 12) (hs : s < 4096) (hk : k < n) (hP : 0 ≤ P k) (hPS : P k ≤ S) (h : s.testBit k = true) (J : StI S (foldI P S (tabI P S n s) s k) b0 f0 (cntI s n)) {b f : Int}
    (hbf : (F (s ^^^ 2 ^ k) + P k ≤ S ∧ b = B (s ^^^ 2 ^ k) ∧ f = F (s ^^^ 2 ^ k) + P k) ∨ (S < F (s ^^^ 2 ^ k) + P k ∧ b = B (s ^^^ 2 ^ k) + 1 ∧ f = P k)) :
    ((b < b0 ∨ (b = b0 ∧ f < f0)) → StI S (foldI P S (tabI P S n s) s (k + 1)) b f (cntI s n)) ∧ (¬ (b < b0 ∨ (b = b0 ∧ f < f0)) → StI S (foldI P S (tabI P S n s) s (k + 1)) b0 f0 (cntI s n)) := by
  obtain ⟨r, r0, r1⟩ := R _ (x_lt hs (by omega) h)
  have cx := cntI_x h n
  rw [if_pos hk] at cx
  have c2 := (cntI_le s n).2
  have e : foldI P S (tabI P S n s) s (k + 1) = min (foldI P S (tabI P S n s) s k) (cutI S (tabI P S n s (s ^^^ 2 ^ k)) (P k)) := by
    show (if s.testBit k then _ else _) = _
    rw [if_pos h]
  rw [e]
  have q := RepI.step r hP hPS
  rcases hbf with ⟨g, rfl, rfl⟩ | ⟨g, rfl, rfl⟩
  · exact StI.step hS (by omega) J (q.1 g) r0 (by omega)
  · exact StI.step hS (by omega) J (q.2 g) (by omega) (by omega)
/-- .. at a piece that the set hasn't -/
theorem foldI_skip {P : Nat → Int} {S : Int} {W : Nat → Int} {s k : Nat} (h : ¬ s.testBit k = true) : foldI P S W s (k + 1) = foldI P S W s k := by
  show (if s.testBit k then _ else _) = _
  rw [if_neg h]
/-- the outer loop's step -/
theorem RowsI.next {P : Nat → Int} {S : Int} {n s : Nat} {B F B' F' : Nat → Int} (R : RowsI P S n B F s) (hS : S ≤ 10000) (hn : n ≤ 12) (hs : s < 2 ^ n) (h0 : 0 < s) (hP : ∀ k : Nat, k < n → 0 ≤ P k ∧ P k ≤ S) (J : StI S (foldI P S (tabI P S n s) s n) (B' s) (F' s) (cntI s n)) (hB : ∀ t : Nat, t < s → B' t = B t ∧ F' t = F t) : RowsI P S n B' F' (s + 1) := by
  have h2 : 2 ^ n ≤ 2 ^ 12 := Nat.pow_le_pow_right (by decide) hn
  have c2 := (cntI_le s n).2
  intro t ht
  by_cases c : t = s
  · subst c
    rw [tabI_new h0]
    rcases J with ⟨j, -, -⟩ | j
    · exfalso
      obtain ⟨k, hk, hb⟩ := bit_some hn hs h0
      have le := foldI_le (P := P) (S := S) (W := tabI P S n t) hb n hk
      obtain ⟨r, r0, r1⟩ := R _ (x_lt (by omega) (by omega) hb)
      have cx := cntI_x hb n
      rw [if_pos hk] at cx
      have q := RepI.step r (hP k hk).1 (hP k hk).2
      have bd : ∀ b f : Int, RepI S (cutI S (tabI P S n t (t ^^^ 2 ^ k)) (P k)) b f → b ≤ 12 → False := fun b f z zb => by
        obtain ⟨z1, z2, z3⟩ := z
        have := Int.mul_le_mul_of_nonneg_right (show b - 1 ≤ 11 by omega) (show 0 ≤ S by omega)
        omega
      rcases Int.lt_or_le S (F (t ^^^ 2 ^ k) + P k) with g | g
      · exact bd _ _ (q.2 g) (by omega)
      · exact bd _ _ (q.1 g) (by omega)
    · exact j
  · rw [tabI_keep (by omega), (hB t (by omega)).1, (hB t (by omega)).2]
    exact R t (by omega)
