/-! the text in the store: the bytes of the array q below the number in field k of a (p14, p34) -/
def mkB (f : Nat → Int) (n : Nat) : Nat → Int := fun i => if i < n then f i else 0
theorem mk_in {f : Nat → Int} {n i : Nat} (h : i < n) : mkB f n i = f i := by
  unfold mkB
  rw [if_pos h]
theorem mk_eq {f g : Nat → Int} {n : Nat} (h : ∀ i : Nat, i < n → f i = g i) : mkB f n = mkB g n := by
  funext i
  unfold mkB
  by_cases c : i < n
  · rw [if_pos c, if_pos c, h i c]
  · rw [if_neg c, if_neg c]
def tx (E : Ec) (q a k : Nat) : Nat → Int := mkB (fun i => (ai E q i).toInt) (fi E a k).toInt.toNat
theorem tx_same {E E' : Ec} {q a k : Nat} (h1 : E' q = E q) (h2 : fi E' a k = fi E a k) : tx E' q a k = tx E q a k := by
  unfold tx
  rw [h2]
  refine mk_eq (fun i _ => ?_)
  simp only [ai, h1]
theorem tx_at {E : Ec} {q a k p : Nat} {x v : Int32} (hx : x.toInt = (p : Int)) (hn : p < (fi E a k).toInt.toNat) (hv : ai E q x.toNatClampNeg = v) : tx E q a k p = v.toInt := by
  unfold tx
  rw [mk_in hn]
  show (ai E q p).toInt = v.toInt
  have e : p = x.toNatClampNeg := by
    show p = x.toInt.toNat
    omega
  rw [e, hv]
theorem and255_all : ∀ k : Nat, k < 256 → ((Int32.ofInt ((k : Int) - 128)) &&& 255).toInt = ((k : Int) - 128) % 256 := by decide +kernel
theorem nu_and255m {x y z : Int32} (h : z = x &&& y) (hy : y.toInt = 255) (h1 : -128 ≤ x.toInt) (h2 : x.toInt ≤ 127) : z.toInt = x.toInt % 256 := by
  have ey : y = 255 := fa_k 255 hy
  obtain ⟨k, hk, hk2⟩ : ∃ k : Nat, k < 256 ∧ x.toInt = (k : Int) - 128 := ⟨(x.toInt + 128).toNat, by omega, by omega⟩
  have ex : x = Int32.ofInt ((k : Int) - 128) := by
    rw [← hk2]
    exact (Int32.ofInt_toInt x).symm
  rw [h, ey, hk2, ← and255_all k hk, ← ex]
/-- places -/
theorem pkI_at {E : Ec} {q a k p : Nat} {x v w y : Int32} (hx : x.toInt = (p : Int)) (hn : p < (fi E a k).toInt.toNat) (hv : ai E q x.toNatClampNeg = v) (hw : w = v &&& y) (hy : y.toInt = 255) (h1 : -128 ≤ v.toInt) (h2 : v.toInt ≤ 127) : w.toInt = pkI (tx E q a k) (fi E a k).toInt.toNat p := by
  rw [pkI_in hn, tx_at hx hn hv]
  exact nu_and255m hw hy h1 h2
theorem nu_pk {B : Nat → Int} {n p : Nat} (h : p < n) (h1 : -128 ≤ B p) (h2 : B p ≤ 127) : (pkI B n p = 32 ↔ qB (B p) = true) ∧ ((97 ≤ pkI B n p ∧ pkI B n p ≤ 122) ↔ qS (B p) = true) ∧ ((48 ≤ pkI B n p ∧ pkI B n p ≤ 57) ↔ qD (B p) = true) := by
  rw [pkI_in h, qB_iff, qS_iff, qD_iff]
  omega
theorem mk_rng {f : Nat → Int} {n i : Nat} (h : ∀ j : Nat, j < n → -128 ≤ f j ∧ f j ≤ 127) : -128 ≤ mkB f n i ∧ mkB f n i ≤ 127 := by
  unfold mkB
  by_cases c : i < n
  · rw [if_pos c]
    exact h i c
  · rw [if_neg c]
    omega
theorem pkB {B : Nat → Int} {n p : Nat} (h : -128 ≤ B p ∧ B p ≤ 127) : pkI B n p = 32 ↔ p < n ∧ qB (B p) = true := by
  by_cases c : p < n
  · rw [pkI_in c, qB_iff]
    omega
  · rw [pkI_out c]
    omega
theorem pkS {B : Nat → Int} {n p : Nat} (h : -128 ≤ B p ∧ B p ≤ 127) : (97 ≤ pkI B n p ∧ pkI B n p ≤ 122) ↔ p < n ∧ qS (B p) = true := by
  by_cases c : p < n
  · rw [pkI_in c, qS_iff]
    omega
  · rw [pkI_out c]
    omega
theorem pkD {B : Nat → Int} {n p : Nat} (h : -128 ≤ B p ∧ B p ≤ 127) : (48 ≤ pkI B n p ∧ pkI B n p ≤ 57) ↔ p < n ∧ qD (B p) = true := by
  by_cases c : p < n
  · rw [pkI_in c, qD_iff]
    omega
  · rw [pkI_out c]
    omega
theorem pkI_val {B : Nat → Int} {n p : Nat} (h : -128 ≤ B p ∧ B p ≤ 127) (h0 : 48 ≤ pkI B n p) (h1 : pkI B n p ≤ 57) : pkI B n p = B p := by
  have q := (pkD (n := n) h).mp ⟨h0, h1⟩
  have d := qD_iff.mp q.2
  rw [pkI_in q.1]
  omega
theorem tx_rng {cy : Nat → ClassId} {L : List Nat} {τ : Nat → Ro} {E : Ec} {q a k : Nat} {r : Ro} (hI : Inv TB cy L τ E) (hq : q ∈ L) (tq : τ q = r) {j : Nat} (hr : tInt r = some (j, 120, fun _ => (-128, 127))) (hn : (fi E a k).toInt ≤ 120) (p : Nat) : -128 ≤ tx E q a k p ∧ tx E q a k p ≤ 127 := by
  unfold tx
  refine mk_rng (fun i hi => ?_)
  subst tq
  obtain ⟨f, he, hf⟩ := hI.2.1 q hq _ _ _ hr
  have e : ai E q i = f i := by simp [ai, he]
  show -128 ≤ (ai E q i).toInt ∧ (ai E q i).toInt ≤ 127
  rw [e]
  exact hf i (by omega)
/-- one letter more of a packed word -/
def pk1 (w c : Int) : Int := if 0 < c then w * 32 + c - 96 else w
theorem pk1_y {w c : Int} (h : 0 < c) : pk1 w c = w * 32 + c - 96 := by
  unfold pk1
  rw [if_pos h]
theorem pk1_n {w c : Int} (h : ¬ 0 < c) : pk1 w c = w := by
  unfold pk1
  rw [if_neg h]
theorem wb_step {w c : Int} {j : Nat} (h : w < (32 : Int) ^ j) (hc : c ≤ 122) : w * 32 + c - 96 < (32 : Int) ^ (j + 1) := by
  rw [Int.pow_succ]
  omega
theorem wb_le {j : Nat} (h : j ≤ 7) : (32 : Int) ^ j ≤ 34359738368 := by
  have : j = 0 ∨ j = 1 ∨ j = 2 ∨ j = 3 ∨ j = 4 ∨ j = 5 ∨ j = 6 ∨ j = 7 := by omega
  rcases this with rfl | rfl | rfl | rfl | rfl | rfl | rfl | rfl <;> decide
theorem wb_le6 {j : Nat} (h : j ≤ 6) : (32 : Int) ^ j ≤ 1073741824 := by
  have : j = 0 ∨ j = 1 ∨ j = 2 ∨ j = 3 ∨ j = 4 ∨ j = 5 ∨ j = 6 := by omega
  rcases this with rfl | rfl | rfl | rfl | rfl | rfl | rfl <;> decide
theorem ck_all {f g : Nat → Int} {p : Nat} {i j : Int} (h : ∀ t : Nat, t < i.toNat → f (p + t) = g t) (h0 : 0 ≤ i) (hj : j = i + 1) (hi : f (p + i.toNat) = g i.toNat) : ∀ t : Nat, t < j.toNat → f (p + t) = g t := fun t ht => by
  by_cases c : t = i.toNat
  · rw [c]
    exact hi
  · exact h t (by omega)
theorem ne_step {w : Int} {f : Nat → Int} {i j : Int} (h : ∀ t : Nat, t < i.toNat → w ≠ f t) (h0 : 0 ≤ i) (hj : j = i + 1) (hi : w ≠ f i.toNat) : ∀ t : Nat, t < j.toNat → w ≠ f t := fun t ht => by
  by_cases c : t = i.toNat
  · rw [c]
    exact hi
  · exact h t (by omega)
