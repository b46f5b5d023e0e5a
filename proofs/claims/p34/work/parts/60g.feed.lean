/-! the bytes that a feed brings (p14, p34) -/
theorem fi_cell {E E' : Ec} {a k : Nat} (h : E' a = E a) : fi E' a k = fi E a k := by simp only [fi, fv, h]
/-- byte j of a number, the highest first, as it is kept -/
def btW (a : Int32) (j : Nat) : Int32 := vp_nar .byte ((a >>> (Int32.ofInt (24 - 8 * (j : Int)) &&& 31)).toInt8.toInt32)
theorem btW_at {a sh v w : Int32} {j : Nat} (h : sh.toInt = 24 - 8 * (j : Int)) (hv : v = a >>> (sh &&& 31)) (hw : v.toInt8.toInt32 = w) : vp_nar .byte w = btW a j := by
  have e : Int32.ofInt (24 - 8 * (j : Int)) = sh := by
    rw [← h]
    exact Int32.ofInt_toInt sh
  unfold btW
  rw [e, ← hv, hw]
/-- which of the five numbers byte k is of -/
def w5 (a b c d e : Int32) (k : Nat) : Int32 := if k < 4 then a else if k < 8 then b else if k < 12 then c else if k < 16 then d else e
theorem w5_1 {a b c d e : Int32} {k : Nat} (h : k < 4) : w5 a b c d e k = a := by
  unfold w5
  rw [if_pos h]
theorem w5_2 {a b c d e : Int32} {k : Nat} (h1 : ¬ k < 4) (h : k < 8) : w5 a b c d e k = b := by
  unfold w5
  rw [if_neg h1, if_pos h]
theorem w5_3 {a b c d e : Int32} {k : Nat} (h1 : ¬ k < 4) (h2 : ¬ k < 8) (h : k < 12) : w5 a b c d e k = c := by
  unfold w5
  rw [if_neg h1, if_neg h2, if_pos h]
theorem w5_4 {a b c d e : Int32} {k : Nat} (h1 : ¬ k < 4) (h2 : ¬ k < 8) (h3 : ¬ k < 12) (h : k < 16) : w5 a b c d e k = d := by
  unfold w5
  rw [if_neg h1, if_neg h2, if_neg h3, if_pos h]
theorem w5_5 {a b c d e : Int32} {k : Nat} (h1 : ¬ k < 4) (h2 : ¬ k < 8) (h3 : ¬ k < 12) (h4 : ¬ k < 16) : w5 a b c d e k = e := by
  unfold w5
  rw [if_neg h1, if_neg h2, if_neg h3, if_neg h4]
def fdB (a b c d e : Int32) (k : Nat) : Int32 := btW (w5 a b c d e k) (k % 4)
theorem fd_1 {a b c d e : Int32} {j : Nat} (h : j < 4) : fdB a b c d e (0 + j) = btW a j := by
  unfold fdB
  rw [w5_1 (by omega), show (0 + j) % 4 = j by omega]
theorem fd_2 {a b c d e : Int32} {j : Nat} (h : j < 4) : fdB a b c d e (4 + j) = btW b j := by
  unfold fdB
  rw [w5_2 (by omega) (by omega), show (4 + j) % 4 = j by omega]
theorem fd_3 {a b c d e : Int32} {j : Nat} (h : j < 4) : fdB a b c d e (8 + j) = btW c j := by
  unfold fdB
  rw [w5_3 (by omega) (by omega) (by omega), show (8 + j) % 4 = j by omega]
theorem fd_4 {a b c d e : Int32} {j : Nat} (h : j < 4) : fdB a b c d e (12 + j) = btW d j := by
  unfold fdB
  rw [w5_4 (by omega) (by omega) (by omega) (by omega), show (12 + j) % 4 = j by omega]
theorem fd_5 {a b c d e : Int32} {j : Nat} (h : j < 4) : fdB a b c d e (16 + j) = btW e j := by
  unfold fdB
  rw [w5_5 (by omega) (by omega) (by omega) (by omega), show (16 + j) % 4 = j by omega]
/-- k bytes came behind the first n -/
def Fed (f g : Nat → Int32) (n k : Nat) (B : Nat → Int32) : Prop := (∀ i : Nat, i < n → f i = g i) ∧ ∀ j : Nat, j < k → f (n + j) = B j
theorem Fed.zero {g : Nat → Int32} {n : Nat} {B : Nat → Int32} : Fed g g n 0 B := ⟨fun _ _ => rfl, fun j hj => absurd hj (Nat.not_lt_zero j)⟩
theorem Fed.push {f g h : Nat → Int32} {n k m : Nat} {B : Nat → Int32} (H : Fed f g n k B) (hm : m = n + k) (h1 : ∀ i : Nat, i < m → h i = f i) (h2 : ∀ j : Nat, j < 4 → h (m + j) = B (k + j)) : Fed h g n (k + 4) B := by
  subst hm
  refine ⟨fun i hi => (h1 i (by omega)).trans (H.1 i hi), fun j hj => ?_⟩
  by_cases c : j < k
  · exact (h1 (n + j) (by omega)).trans (H.2 j c)
  · have e := h2 (j - k) (by omega)
    rw [show n + k + (j - k) = n + j by omega, show k + (j - k) = j by omega] at e
    exact e
theorem Fed.one {f g h : Nat → Int32} {n k i : Nat} {B : Nat → Int32} (H : Fed f g n k B) (hi : i = n + k) (h1 : ∀ j : Nat, j ≠ i → h j = f j) (h2 : h i = B k) : Fed h g n (k + 1) B := by
  subst hi
  refine ⟨fun j hj => (h1 j (by omega)).trans (H.1 j hj), fun j hj => ?_⟩
  by_cases c : j = k
  · rw [c]
    exact h2
  · exact (h1 (n + j) (by omega)).trans (H.2 j (by omega))
theorem Fed.both {f g f' g' : Nat → Int32} {n n' k : Nat} {B : Nat → Int32} (hn : n = n') (H : Fed f f' n k B) (K : Fed g g' n' k B) (h : ∀ i : Nat, i < n' → f' i = g' i) : ∀ i : Nat, i < n' + k → f i = g i := by
  subst hn
  intro i hi
  by_cases c : i < n
  · rw [H.1 i c, K.1 i c]
    exact h i c
  · have e1 := H.2 (i - n) (by omega)
    have e2 := K.2 (i - n) (by omega)
    rw [show n + (i - n) = i by omega] at e1 e2
    rw [e1, e2]
theorem nar_all : ∀ k : Nat, k < 256 → vp_nar .byte (Int32.ofInt ((k : Int) - 128)) = Int32.ofInt ((k : Int) - 128) := by decide +kernel
theorem nar_id {x : Int32} (h1 : -128 ≤ x.toInt) (h2 : x.toInt ≤ 127) : vp_nar .byte x = x := by
  obtain ⟨k, hk, hk2⟩ : ∃ k : Nat, k < 256 ∧ x.toInt = (k : Int) - 128 := ⟨(x.toInt + 128).toNat, by omega, by omega⟩
  have ex : Int32.ofInt ((k : Int) - 128) = x := by
    rw [← hk2]
    exact Int32.ofInt_toInt x
  rw [← ex]
  exact nar_all k hk
