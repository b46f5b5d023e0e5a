/-! the loops' steps, number by number (p27) -/
theorem cutI_a {S u p : Int} (h : p ≤ S - u % S) : cutI S u p = u + p := by
  unfold cutI
  rw [if_pos h]
theorem cutI_b {S u p : Int} (h : ¬ p ≤ S - u % S) : cutI S u p = u + (S - u % S) + p := by
  unfold cutI
  rw [if_neg h]
theorem cutI_bnd {S u p : Int} (hS : 1 ≤ S) (hS2 : S ≤ 10000) (hu : 0 ≤ u) (hp : 0 ≤ p) (hp2 : p ≤ 10000) : 0 ≤ cutI S u p ∧ cutI S u p ≤ u + 20000 := by
  have h1 := Int.emod_nonneg u (show S ≠ 0 by omega)
  have h2 := Int.emod_lt_of_pos u (show 0 < S by omega)
  by_cases c : p ≤ S - u % S
  · rw [cutI_a c]
    omega
  · rw [cutI_b c]
    omega
theorem foldI_pos {P : Nat → Int} {S : Int} {W : Nat → Int} {s : Nat} : ∀ n : Nat, (∀ k : Nat, k < n → s.testBit k = true → 0 ≤ cutI S (W (s ^^^ 2 ^ k)) (P k)) → 0 ≤ foldI P S W s n
  | 0, _ => by
    show (0 : Int) ≤ 2147483647
    decide
  | n + 1, h => by
    have ih := foldI_pos (P := P) (S := S) (W := W) (s := s) n (fun k hk => h k (by omega))
    show 0 ≤ (if s.testBit n then min (foldI P S W s n) (cutI S (W (s ^^^ 2 ^ n)) (P n)) else foldI P S W s n)
    by_cases c : s.testBit n = true
    · rw [if_pos c]
      have := h n (by omega) c
      omega
    · rw [if_neg c]
      exact ih
theorem tabI_bnd {P : Nat → Int} {S : Int} {n : Nat} (hS : 1 ≤ S) (hS2 : S ≤ 10000) (hn : n ≤ 12) (hP : ∀ k : Nat, k < n → 0 ≤ P k ∧ P k ≤ 10000) : ∀ s : Nat, s ≤ 2 ^ n → ∀ t : Nat, t < s → 0 ≤ tabI P S n s t ∧ tabI P S n s t ≤ 20000 * cntI t n
  | 0, _, t, ht => absurd ht (Nat.not_lt_zero _)
  | s + 1, hs, t, ht => by
    have ih := tabI_bnd hS hS2 hn hP s (by omega)
    have h2 : 2 ^ n ≤ 2 ^ 12 := Nat.pow_le_pow_right (by decide) hn
    by_cases c : t = s
    · subst c
      by_cases c0 : t = 0
      · subst c0
        have := (cntI_le 0 n).1
        rw [tabI_zero]
        omega
      · rw [tabI_new (by omega)]
        constructor
        · refine foldI_pos n (fun k hk hb => ?_)
          have q := ih _ (x_lt (by omega) (by omega) hb)
          exact (cutI_bnd hS hS2 q.1 (hP k hk).1 (hP k hk).2).1
        · obtain ⟨k, hk, hb⟩ := bit_some hn (show t < 2 ^ n by omega) (by omega)
          have le := foldI_le (P := P) (S := S) (W := tabI P S n t) hb n hk
          have q := ih _ (x_lt (by omega) (by omega) hb)
          have b := (cutI_bnd hS hS2 q.1 (hP k hk).1 (hP k hk).2).2
          have cx := cntI_x hb n
          rw [if_pos hk] at cx
          omega
    · rw [tabI_keep (by omega)]
      exact ih t (by omega)
theorem tabI_b2 {P : Nat → Int} {S : Int} {n : Nat} (hS : 1 ≤ S) (hS2 : S ≤ 10000) (hn : n ≤ 12) (hP : ∀ k : Nat, k < n → 0 ≤ P k ∧ P k ≤ 10000) {s t : Nat} (hs : s ≤ 2 ^ n) (ht : t < s) : 0 ≤ tabI P S n s t ∧ tabI P S n s t ≤ 240000 := by
  have q := tabI_bnd hS hS2 hn hP s hs t ht
  have c := (cntI_le t n).2
  omega
theorem foldI_congr {P P' : Nat → Int} {S : Int} {W W' : Nat → Int} {s : Nat} (hW : ∀ t, W t = W' t) : ∀ n : Nat, (∀ k : Nat, k < n → P k = P' k) → foldI P S W s n = foldI P' S W' s n
  | 0, _ => rfl
  | n + 1, h => by
    show (if s.testBit n then min (foldI P S W s n) (cutI S (W (s ^^^ 2 ^ n)) (P n)) else foldI P S W s n) = (if s.testBit n then min (foldI P' S W' s n) (cutI S (W' (s ^^^ 2 ^ n)) (P' n)) else foldI P' S W' s n)
    rw [foldI_congr hW n (fun k hk => h k (by omega)), hW (s ^^^ 2 ^ n), h n (by omega)]
theorem tabI_congr {P P' : Nat → Int} {S : Int} {n : Nat} (h : ∀ k : Nat, k < n → P k = P' k) : ∀ s t : Nat, tabI P S n s t = tabI P' S n s t
  | 0, _ => rfl
  | s + 1, t => by
    show (if t = s ∧ 0 < s then foldI P S (tabI P S n s) s n else tabI P S n s t) = (if t = s ∧ 0 < s then foldI P' S (tabI P' S n s) s n else tabI P' S n s t)
    rw [foldI_congr (W := tabI P S n s) (W' := tabI P' S n s) (tabI_congr h s) n h, tabI_congr h s t]
/-- the answer: refused, too long a piece, so many boards -/
def AnsB (P : Nat → Int) (S : Int) (n : Nat) (r : Int) : Prop := (¬ (1 ≤ S ∧ S ≤ 10000) ∧ r = -1) ∨ ((1 ≤ S ∧ S ≤ 10000) ∧ (∃ k : Nat, k < n ∧ S < P k) ∧ r = -2) ∨ ((1 ≤ S ∧ S ≤ 10000) ∧ (∀ k : Nat, k < n → P k ≤ S) ∧ r = (tabI P S n (2 ^ n) (2 ^ n - 1) + S - 1) / S)
theorem AnsB.eq {P P' : Nat → Int} {S : Int} {n : Nat} {r r' : Int} (h : AnsB P S n r) (h' : AnsB P' S n r') (hP : ∀ k : Nat, k < n → P k = P' k) : r = r' := by
  rcases h with ⟨a, b⟩ | ⟨a, ⟨k, hk, hl⟩, b⟩ | ⟨a, c, b⟩
  · rcases h' with ⟨a', b'⟩ | ⟨a', _, b'⟩ | ⟨a', _, b'⟩
    · rw [b, b']
    · exact absurd a' a
    · exact absurd a' a
  · rcases h' with ⟨a', b'⟩ | ⟨a', _, b'⟩ | ⟨a', c', b'⟩
    · exact absurd a a'
    · rw [b, b']
    · have q1 := c' k hk
      have q2 := hP k hk
      omega
  · rcases h' with ⟨a', b'⟩ | ⟨a', ⟨k, hk, hl⟩, b'⟩ | ⟨a', c', b'⟩
    · exact absurd a a'
    · have q1 := c k hk
      have q2 := hP k hk
      omega
    · rw [b, b', tabI_congr hP]
def maxI (P : Nat → Int) : Nat → Int
  | 0 => 0
  | k + 1 => max (maxI P k) (P k)
theorem maxI_step {P : Nat → Int} {m m' p i j : Int} (h : m = maxI P i.toNat) (hp : P i.toNat = p) (hm : m' = max m p) (h0 : 0 ≤ i) (hj : j = i + 1) : m' = maxI P j.toNat := by
  have e : j.toNat = i.toNat + 1 := by omega
  rw [e]
  show m' = max (maxI P i.toNat) (P i.toNat)
  rw [← h, hp, hm]
theorem maxI_le {P : Nat → Int} {S : Int} : ∀ n : Nat, maxI P n ≤ S → ∀ k : Nat, k < n → P k ≤ S
  | 0, _, k, hk => absurd hk (Nat.not_lt_zero _)
  | n + 1, h, k, hk => by
    have h : max (maxI P n) (P n) ≤ S := h
    by_cases c : k = n
    · subst c
      omega
    · exact maxI_le n (by omega) k (by omega)
theorem maxI_lt {P : Nat → Int} {S : Int} (hS : 0 ≤ S) : ∀ n : Nat, S < maxI P n → ∃ k : Nat, k < n ∧ S < P k
  | 0, h => by
    have h : S < 0 := h
    omega
  | n + 1, h => by
    have h : S < max (maxI P n) (P n) := h
    by_cases c : S < P n
    · exact ⟨n, by omega, c⟩
    · obtain ⟨k, hk, q⟩ := maxI_lt (P := P) hS n (by omega)
      exact ⟨k, by omega, q⟩
theorem tab_one {P : Nat → Int} {S : Int} {n : Nat} {f : Nat → Int} (h : f 0 = 0) : ∀ t : Nat, t < 1 → f t = tabI P S n 1 t := fun t ht => by
  have e : t = 0 := by omega
  rw [e, tabI_zero, h]
theorem tab_step {P : Nat → Int} {S : Int} {n s : Nat} {f g : Nat → Int} {w : Int} (h : ∀ t : Nat, t < s → f t = tabI P S n s t) (hw : w = foldI P S (tabI P S n s) s n) (h0 : 0 < s) (g1 : g s = w) (g2 : ∀ j : Nat, j ≠ s → g j = f j) : ∀ t : Nat, t < s + 1 → g t = tabI P S n (s + 1) t := fun t ht => by
  by_cases c : t = s
  · rw [c, tabI_new h0, g1, hw]
  · rw [tabI_keep (by omega), g2 t c, h t (by omega)]
theorem fold_no {P : Nat → Int} {S : Int} {W : Nat → Int} {s : Nat} {w i j : Int} (h : w = foldI P S W s i.toNat) (h0 : 0 ≤ i) (hj : j = i + 1) (hb : ¬ s.testBit i.toNat = true) : w = foldI P S W s j.toNat := by
  have e : j.toNat = i.toNat + 1 := by omega
  rw [e, foldI_skip hb, h]
theorem fold_yes {P : Nat → Int} {S : Int} {W : Nat → Int} {s : Nat} {w w' i j u p c : Int} (h : w = foldI P S W s i.toNat) (h0 : 0 ≤ i) (hj : j = i + 1) (hb : s.testBit i.toNat = true) (hu : W (s ^^^ 2 ^ i.toNat) = u) (hp : P i.toNat = p) (hc : c = cutI S u p) (hw : w' = min w c) : w' = foldI P S W s j.toNat := by
  have e : j.toNat = i.toNat + 1 := by omega
  rw [e]
  show w' = (if s.testBit i.toNat then min (foldI P S W s i.toNat) (cutI S (W (s ^^^ 2 ^ i.toNat)) (P i.toNat)) else foldI P S W s i.toNat)
  rw [if_pos hb, hu, hp, ← h, ← hc, hw]
theorem nu_bitO {x c z w o : Int32} (h : z = x >>> (c &&& 31)) (hw : w = z &&& o) (ho : o.toInt = 1) (h0 : 0 ≤ x.toInt) (h1 : x.toInt ≤ 4095) (g0 : 0 ≤ c.toInt) (g1 : c.toInt ≤ 11) : (w.toInt = 1 ∧ x.toInt.toNat.testBit c.toInt.toNat = true) ∨ (w.toInt = 0 ∧ x.toInt.toNat.testBit c.toInt.toNat = false) := by
  have q := nu_bit h hw ho h0 h1 g0 g1
  cases e : x.toInt.toNat.testBit c.toInt.toNat with
  | true =>
    rw [e, if_pos rfl] at q
    exact Or.inl ⟨q, rfl⟩
  | false =>
    rw [e, if_neg (by decide)] at q
    exact Or.inr ⟨q, rfl⟩
theorem bit_yes {w : Int32} {b : Bool} (h : (w.toInt = 1 ∧ b = true) ∨ (w.toInt = 0 ∧ b = false)) (hw : w.toInt = 1) : b = true := by
  rcases h with ⟨_, q⟩ | ⟨q, _⟩
  · exact q
  · omega
theorem bit_no {w : Int32} {b : Bool} (h : (w.toInt = 1 ∧ b = true) ∨ (w.toInt = 0 ∧ b = false)) (hw : w.toInt ≠ 1) : ¬ b = true := by
  rcases h with ⟨q, _⟩ | ⟨_, q⟩
  · exact absurd q hw
  · rw [q]
    decide
theorem nu_powS {x c z : Int32} (h : z = x <<< (c &&& 31)) (hx : x.toInt = 1) (h0 : 0 ≤ c.toInt) (h1 : c.toInt ≤ 12) : z.toInt = ((2 ^ c.toInt.toNat : Nat) : Int) ∧ 1 ≤ z.toInt ∧ z.toInt ≤ 4096 ∧ (c.toInt ≤ 11 → z.toInt ≤ 2048) := ⟨nu_pow h hx h0 h1, nu_sh1 h hx h0 h1⟩
theorem nu_xorP {x y z : Int32} {c : Nat} (h : z = x ^^^ y) (hy : y.toInt = ((2 ^ c : Nat) : Int)) (h0 : 0 ≤ x.toInt) (h1 : x.toInt ≤ 4095) (g0 : 0 ≤ y.toInt) (g1 : y.toInt ≤ 4095) : z.toInt = ((x.toInt.toNat ^^^ 2 ^ c : Nat) : Int) ∧ 0 ≤ z.toInt ∧ z.toInt ≤ 4095 := by
  refine ⟨?_, nu_xor h h0 h1 g0 g1⟩
  have q := nu_xorN h h0 h1 g0 g1
  rw [hy] at q
  exact q
theorem nu_remv {x y z : Int32} (h : z = x - x / y * y) (hx : 0 ≤ x.toInt) (hy : 0 < y.toInt) : z.toInt = x.toInt % y.toInt ∧ 0 ≤ z.toInt ∧ z.toInt < y.toInt := by
  have e := nu_remc y.toInt h rfl hx hy
  have h1 := Int.emod_nonneg x.toInt (show y.toInt ≠ 0 by omega)
  have h2 := Int.emod_lt_of_pos x.toInt hy
  omega
theorem nu_divv {x y z : Int32} (h : z = x / y) (hx : 0 ≤ x.toInt) (hy : 0 < y.toInt) : z.toInt = x.toInt / y.toInt := nu_divc y.toInt h rfl hx hy
theorem at_idx {f : Nat → Int} {x : Int32} {t : Nat} {u : Int} (hx : x.toInt = (t : Int)) (hu : f x.toInt.toNat = u) : f t = u := by
  rw [show t = x.toInt.toNat by omega, hu]
theorem RowsI.cong {P : Nat → Int} {S : Int} {n s : Nat} {B F B' F' : Nat → Int} (R : RowsI P S n B F s) (h : ∀ t : Nat, t < s → B' t = B t ∧ F' t = F t) : RowsI P S n B' F' s := fun t ht => by
  rw [(h t ht).1, (h t ht).2]
  exact R t ht
theorem StI.skip {P : Nat → Int} {S : Int} {W : Nat → Int} {s : Nat} {b f c i j : Int} (J : StI S (foldI P S W s i.toNat) b f c) (h0 : 0 ≤ i) (hj : j = i + 1) (hb : ¬ s.testBit i.toNat = true) : StI S (foldI P S W s j.toNat) b f c := by
  have e : j.toNat = i.toNat + 1 := by omega
  rw [e, foldI_skip hb]
  exact J
theorem StI.zero {P : Nat → Int} {S : Int} {W : Nat → Int} {s : Nat} {b f c i : Int} (hi : i = 0) (hb : b = 100) (hf : f = 0) : StI S (foldI P S W s i.toNat) b f c := by
  rw [hi]
  exact Or.inl ⟨rfl, hb, hf⟩
/-- the reference's inner loop at a piece of the set -/
theorem brd_step {P : Nat → Int} {S : Int} {n s : Nat} {B F : Nat → Int} {i j u v p b f b0 f0 : Int} (R : RowsI P S n B F s) (hS : S ≤ 10000) (hn : n ≤ 12) (hs : s < 4096) (J : StI S (foldI P S (tabI P S n s) s i.toNat) (B s) (F s) (cntI s n)) (h0 : 0 ≤ i) (hj : j = i + 1) (hk : i.toNat < n) (hP : 0 ≤ P i.toNat) (hPS : P i.toNat ≤ S) (hb : s.testBit i.toNat = true)
    (hF : F (s ^^^ 2 ^ i.toNat) = u) (hB : B (s ^^^ 2 ^ i.toNat) = v) (hp : P i.toNat = p) (hb0 : B s = b0) (hf0 : F s = f0)
    (hbf : (u + p ≤ S ∧ b = v ∧ f = u + p) ∨ (S < u + p ∧ b = v + 1 ∧ f = p)) :
    ((b < b0 ∨ (b = b0 ∧ f < f0)) → StI S (foldI P S (tabI P S n s) s j.toNat) b f (cntI s n)) ∧ (¬ (b < b0 ∨ (b = b0 ∧ f < f0)) → StI S (foldI P S (tabI P S n s) s j.toNat) (B s) (F s) (cntI s n)) := by
  have e : j.toNat = i.toNat + 1 := by omega
  rw [e]
  subst hF hB hb0 hf0
  rw [← hp] at hbf
  exact RowsI.step R hS hn hs hk hP hPS hb J hbf
theorem brd_end {P : Nat → Int} {S : Int} {n N : Nat} {B F : Nat → Int} {r : Int} (hN : N = 2 ^ n) (hS : 1 ≤ S) (R : RowsI P S n B F N) (hr : B (N - 1) = r) : r = (tabI P S n (2 ^ n) (2 ^ n - 1) + S - 1) / S := by
  subst hN
  have h : 2 ^ n - 1 < 2 ^ n := Nat.sub_lt (Nat.two_pow_pos n) (by decide)
  rw [RepI.boards hS (R _ h).1, hr]
theorem bit_yes0 {w : Int32} {b : Bool} (h : (w.toInt = 1 ∧ b = true) ∨ (w.toInt = 0 ∧ b = false)) (hw : w.toInt ≠ 0) : b = true := by
  rcases h with ⟨_, q⟩ | ⟨q, _⟩
  · exact q
  · exact absurd q hw
theorem bit_no0 {w : Int32} {b : Bool} (h : (w.toInt = 1 ∧ b = true) ∨ (w.toInt = 0 ∧ b = false)) (hw : w.toInt = 0) : ¬ b = true := by
  rcases h with ⟨q, _⟩ | ⟨_, q⟩
  · omega
  · rw [q]
    decide
theorem ck_step {f : Nat → Int} {S i j : Int} (h : ∀ t : Nat, t < i.toNat → f t ≤ S) (hi : f i.toNat ≤ S) (h0 : 0 ≤ i) (hj : j = i + 1) : ∀ t : Nat, t < j.toNat → f t ≤ S := fun t ht => by
  by_cases c : t = i.toNat
  · rw [c]
    exact hi
  · exact h t (by omega)
theorem ai_bnd {tb : Tb} {cy : Nat → ClassId} {L : List Nat} {τ : Nat → Ro} {E : Ec} {a j n : Nat} {r : Ro} {w : Nat → Int × Int} (hI : Inv tb cy L τ E) (ha : a ∈ L) (hτ : τ a = r) (hr : tb.2.1 r = some (j, n, w)) : ∀ i : Nat, i < n → (w i).1 ≤ (ai E a i).toInt ∧ (ai E a i).toInt ≤ (w i).2 := by
  subst hτ
  obtain ⟨f, he, hf⟩ := hI.2.1 a ha _ _ _ hr
  intro i hi
  have e : ai E a i = f i := by simp [ai, he]
  rw [e]
  exact hf i hi
theorem used0 {cy : Nat → ClassId} {L : List Nat} {τ : Nat → Ro} {E : Ec} {q : Nat} (hI : Inv TB cy L τ E) (hq : q ∈ L) (tq : τ q = (31, 0)) : (ai E q 0).toInt = 0 := by
  have h := ai_bnd (j := 0) (n := 4096) (w := usedB) hI hq tq rfl 0 (by decide)
  have h1 : 0 ≤ (ai E q 0).toInt := by first | exact h.1 | simpa [usedB] using h.1
  have h2 : (ai E q 0).toInt ≤ 0 := by first | exact h.2 | simpa [usedB] using h.2
  omega
theorem fi_cell {E E' : Ec} {a k : Nat} (h : E' a = E a) : fi E' a k = fi E a k := by simp only [fi, fv, h]
