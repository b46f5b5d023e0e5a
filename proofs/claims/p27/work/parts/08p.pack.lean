/-! PACKING (p27): the class's table of lengths and the reference's of boards and fill -/
def cutI (S u p : Int) : Int := if p ≤ S - u % S then u + p else u + (S - u % S) + p
/-- the least over the pieces 0 .. k-1 of the set s -/
def foldI (P : Nat → Int) (S : Int) (W : Nat → Int) (s : Nat) : Nat → Int
  | 0 => 2147483647
  | k + 1 => if s.testBit k then min (foldI P S W s k) (cutI S (W (s ^^^ 2 ^ k)) (P k)) else foldI P S W s k
/-- the table when all sets below k are done -/
def tabI (P : Nat → Int) (S : Int) (n : Nat) : Nat → Nat → Int
  | 0, _ => 0
  | k + 1, s => if s = k ∧ 0 < k then foldI P S (tabI P S n k) k n else tabI P S n k s
theorem tabI_keep {P : Nat → Int} {S : Int} {n k s : Nat} (h : s < k) : tabI P S n (k + 1) s = tabI P S n k s := by
  show (if s = k ∧ 0 < k then _ else _) = _
  rw [if_neg (by omega)]
theorem tabI_new {P : Nat → Int} {S : Int} {n k : Nat} (h : 0 < k) : tabI P S n (k + 1) k = foldI P S (tabI P S n k) k n := by
  show (if k = k ∧ 0 < k then _ else _) = _
  rw [if_pos ⟨rfl, h⟩]
theorem tabI_zero {P : Nat → Int} {S : Int} {n : Nat} : ∀ k : Nat, tabI P S n k 0 = 0
  | 0 => rfl
  | k + 1 => by
    show (if 0 = k ∧ 0 < k then _ else _) = _
    rw [if_neg (by omega)]
    exact tabI_zero k
/-- how many pieces a set has -/
def cntI (s : Nat) : Nat → Int
  | 0 => 0
  | k + 1 => cntI s k + if s.testBit k then 1 else 0
theorem cntI_le (s : Nat) : ∀ k : Nat, 0 ≤ cntI s k ∧ cntI s k ≤ k
  | 0 => ⟨Int.le_refl _, Int.le_refl _⟩
  | k + 1 => by
    have h := cntI_le s k
    show 0 ≤ cntI s k + _ ∧ cntI s k + _ ≤ _
    split <;> constructor <;> omega
theorem bit_x (s k j : Nat) : (s ^^^ 2 ^ k).testBit j = (s.testBit j ^^ decide (k = j)) := by
  rw [Nat.testBit_xor, Nat.testBit_two_pow]
theorem cntI_x {s k : Nat} (h : s.testBit k = true) : ∀ n : Nat, cntI (s ^^^ 2 ^ k) n = cntI s n - if k < n then 1 else 0
  | 0 => by simp [cntI]
  | n + 1 => by
    have ih := cntI_x h n
    show cntI (s ^^^ 2 ^ k) n + (if (s ^^^ 2 ^ k).testBit n then 1 else 0) = cntI s n + (if s.testBit n then 1 else 0) - _
    rw [ih, bit_x]
    by_cases c : k = n
    · subst c
      simp [h]
    · have d : decide (k = n) = false := by simp [c]
      rw [d, Bool.xor_false]
      by_cases e : k < n
      · rw [if_pos e, if_pos (show k < n + 1 by omega)]; omega
      · rw [if_neg e, if_neg (show ¬ k < n + 1 by omega)]; omega
theorem x_lt_all : ∀ k : Nat, k < 12 → ∀ a : Nat, a < 64 → ∀ b : Nat, b < 64 → (64 * a + b).testBit k = true → (64 * a + b) ^^^ 2 ^ k < 64 * a + b := by decide +kernel
theorem x_lt {s k : Nat} (hs : s < 4096) (hk : k < 12) (h : s.testBit k = true) : s ^^^ 2 ^ k < s := by
  have e : 64 * (s / 64) + s % 64 = s := by omega
  have q := x_lt_all k hk (s / 64) (by omega) (s % 64) (by omega)
  rw [e] at q
  exact q h
/-- a length as boards and the last one's fill -/
def RepI (S u b f : Int) : Prop := u = (b - 1) * S + f ∧ 1 ≤ f ∧ f ≤ S
theorem RepI.step {S u b f p : Int} (h : RepI S u b f) (hp : 0 ≤ p) (hpS : p ≤ S) : (f + p ≤ S → RepI S (cutI S u p) b (f + p)) ∧ (S < f + p → RepI S (cutI S u p) (b + 1) p) := by
  obtain ⟨hu, h1, h2⟩ := h
  have e : (b - 1) * S + S = b * S := by rw [Int.sub_mul, Int.one_mul]; omega
  have e2 : (b + 1 - 1) * S = b * S := by rw [show b + 1 - 1 = b by omega]
  by_cases c : f = S
  · have hm : u % S = 0 := by rw [hu, c, e]; exact Int.mul_emod_left b S
    refine ⟨fun z => ⟨?_, by omega, z⟩, fun z => ⟨?_, by omega, hpS⟩⟩
    · unfold cutI
      rw [hm, if_pos (by omega)]
      omega
    · unfold cutI
      rw [hm, if_pos (by omega), e2, hu, c, e]
  · have hm : u % S = f := by
      rw [hu, Int.add_comm, Int.add_mul_emod_self_right]
      exact Int.emod_eq_of_lt (by omega) (by omega)
    refine ⟨fun z => ⟨?_, by omega, z⟩, fun z => ⟨?_, by omega, hpS⟩⟩
    · unfold cutI
      rw [hm, if_pos (by omega)]
      omega
    · unfold cutI
      rw [hm, if_neg (by omega), e2]
      omega
theorem RepI.lt {S u b f u' b' f' : Int} (h : RepI S u b f) (h' : RepI S u' b' f') : u' < u ↔ b' < b ∨ (b' = b ∧ f' < f) := by
  obtain ⟨hu, h1, h2⟩ := h
  obtain ⟨hu', h1', h2'⟩ := h'
  have hS : 0 ≤ S := by omega
  constructor
  · intro hlt
    rcases Int.lt_trichotomy b' b with c | c | c
    · exact Or.inl c
    · subst c; exact Or.inr ⟨rfl, by omega⟩
    · exfalso
      have := Int.mul_le_mul_of_nonneg_right (show b ≤ b' - 1 by omega) hS
      have e : (b - 1) * S + S = b * S := by rw [Int.sub_mul, Int.one_mul]; omega
      omega
  · rintro (c | ⟨c, d⟩)
    · have := Int.mul_le_mul_of_nonneg_right (show b' ≤ b - 1 by omega) hS
      have e : (b' - 1) * S + S = b' * S := by rw [Int.sub_mul, Int.one_mul]; omega
      omega
    · subst c; omega
/-- the inner loop's state: nothing yet, or a length and its boards -/
def StI (S v B F c : Int) : Prop := (v = 2147483647 ∧ B = 100 ∧ F = 0) ∨ (RepI S v B F ∧ 0 ≤ B ∧ B ≤ c)
theorem StI.step {S v B F c u b f : Int} (hS : S ≤ 10000) (hc : c ≤ 12) (h : StI S v B F c) (hr : RepI S u b f) (hb : 0 ≤ b) (hbc : b ≤ c) :
    ((b < B ∨ (b = B ∧ f < F)) → StI S (min v u) b f c) ∧ (¬ (b < B ∨ (b = B ∧ f < F)) → StI S (min v u) B F c) := by
  have hub : u ≤ 120000 := by
    obtain ⟨hu, h1, h2⟩ := hr
    have := Int.mul_le_mul_of_nonneg_right (show b - 1 ≤ 11 by omega) (show 0 ≤ S by omega)
    omega
  rcases h with ⟨h1, h2, h3⟩ | ⟨h1, h2, h3⟩
  · refine ⟨fun _ => Or.inr ⟨?_, hb, hbc⟩, fun z => absurd (Or.inl (by omega)) z⟩
    rw [show min v u = u by omega]
    exact hr
  · have q := RepI.lt h1 hr
    refine ⟨fun z => Or.inr ⟨?_, hb, hbc⟩, fun z => Or.inr ⟨?_, h2, h3⟩⟩
    · rw [show min v u = u by have := q.mpr z; omega]
      exact hr
    · rw [show min v u = v by have := mt q.mp z; omega]
      exact h1
/-- how many boards a length is -/
theorem RepI.boards {S u b f : Int} (hS : 1 ≤ S) (h : RepI S u b f) : (u + S - 1) / S = b := by
  obtain ⟨hu, h1, h2⟩ := h
  have e : u + S - 1 = (f - 1) + b * S := by
    have : (b - 1) * S + S = b * S := by rw [Int.sub_mul, Int.one_mul]; omega
    omega
  rw [e, Int.add_mul_ediv_right _ _ (by omega), Int.ediv_eq_zero_of_lt (by omega) (by omega)]
  omega
