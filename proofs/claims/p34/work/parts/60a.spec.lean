/-! THE TEXT OF A LAW (p14, p34): what both readers do, as functions of the bytes B and their number n -/
/-- the first place from p on where Q no longer holds -/
def runF (Q : Int → Bool) (B : Nat → Int) (n : Nat) : Nat → Nat → Nat
  | 0, p => p
  | f + 1, p => if p < n ∧ Q (B p) = true then runF Q B n f (p + 1) else p
def run (Q : Int → Bool) (B : Nat → Int) (n p : Nat) : Nat := runF Q B n (n - p) p
theorem run_go {Q : Int → Bool} {B : Nat → Int} {n p : Nat} (h : p < n) (q : Q (B p) = true) : run Q B n p = run Q B n (p + 1) := by
  unfold run
  rw [show n - p = (n - (p + 1)) + 1 by omega]
  show (if p < n ∧ Q (B p) = true then runF Q B n (n - (p + 1)) (p + 1) else p) = _
  rw [if_pos ⟨h, q⟩]
theorem run_stop {Q : Int → Bool} {B : Nat → Int} {n p : Nat} (h : ¬ (p < n ∧ Q (B p) = true)) : run Q B n p = p := by
  unfold run
  cases e : n - p with
  | zero => rfl
  | succ f =>
    show (if p < n ∧ Q (B p) = true then runF Q B n f (p + 1) else p) = p
    rw [if_neg h]
theorem run_rec {Q : Int → Bool} {B : Nat → Int} {n : Nat} (C : Nat → Nat → Prop) (h1 : ∀ p : Nat, ¬ (p < n ∧ Q (B p) = true) → C p p) (h2 : ∀ p r : Nat, p < n → Q (B p) = true → C (p + 1) r → C p r) : ∀ (f p : Nat), n - p = f → C p (run Q B n p)
  | 0, p, hf => by
    have h : ¬ (p < n ∧ Q (B p) = true) := fun z => by omega
    rw [run_stop h]
    exact h1 p h
  | f + 1, p, hf => by
    by_cases h : p < n ∧ Q (B p) = true
    · rw [run_go h.1 h.2]
      exact h2 p _ h.1 h.2 (run_rec C h1 h2 f (p + 1) (by omega))
    · rw [run_stop h]
      exact h1 p h
theorem run_ge {Q : Int → Bool} {B : Nat → Int} {n : Nat} (p : Nat) : p ≤ run Q B n p := run_rec (fun p r => p ≤ r) (fun _ _ => Nat.le_refl _) (fun _ _ _ _ h => by omega) _ p rfl
theorem run_le {Q : Int → Bool} {B : Nat → Int} {n p : Nat} (h : p ≤ n) : run Q B n p ≤ n := run_rec (fun p r => p ≤ n → r ≤ n) (fun _ _ h => h) (fun _ _ hp _ h _ => h (by omega)) _ p rfl h
theorem run_end {Q : Int → Bool} {B : Nat → Int} {n : Nat} (p : Nat) : ¬ (run Q B n p < n ∧ Q (B (run Q B n p)) = true) := run_rec (fun _ r => ¬ (r < n ∧ Q (B r) = true)) (fun _ h => h) (fun _ _ _ _ h => h) _ p rfl
theorem run_in {Q : Int → Bool} {B : Nat → Int} {n : Nat} (p : Nat) : ∀ i : Nat, p ≤ i → i < run Q B n p → i < n ∧ Q (B i) = true := run_rec (fun p r => ∀ i : Nat, p ≤ i → i < r → i < n ∧ Q (B i) = true) (fun _ _ _ _ _ => by omega) (fun p r hp hq h i h1 h2 => by
  by_cases c : i = p
  · rw [c]
    exact ⟨hp, hq⟩
  · exact h i (by omega) h2) _ p rfl
theorem run_self {Q : Int → Bool} {B : Nat → Int} {n : Nat} (p : Nat) : run Q B n (run Q B n p) = run Q B n p := run_stop (run_end p)
theorem run_congr {Q : Int → Bool} {B B' : Nat → Int} {n : Nat} (hB : ∀ i : Nat, i < n → B i = B' i) (p : Nat) : run Q B n p = run Q B' n p := run_rec (fun p r => r = run Q B' n p) (fun p h => (run_stop (fun z => h ⟨z.1, by rw [hB p z.1]; exact z.2⟩)).symm) (fun p r hp hq h => by rw [h, ← run_go hp (by rw [← hB p hp]; exact hq)]) _ p rfl
def qB (c : Int) : Bool := decide (c = 32)
def qS (c : Int) : Bool := decide (97 ≤ c ∧ c ≤ 122)
def qD (c : Int) : Bool := decide (48 ≤ c ∧ c ≤ 57)
theorem qB_iff {c : Int} : qB c = true ↔ c = 32 := by simp [qB]
theorem qS_iff {c : Int} : qS c = true ↔ 97 ≤ c ∧ c ≤ 122 := by simp [qS]
theorem qD_iff {c : Int} : qD c = true ↔ 48 ≤ c ∧ c ≤ 57 := by simp [qD]
/-- blanks passed; where the small letters end; where the digits end -/
abbrev skI (B : Nat → Int) (n p : Nat) : Nat := run qB B n p
abbrev ltI (B : Nat → Int) (n p : Nat) : Nat := run qS B n p
abbrev dgI (B : Nat → Int) (n p : Nat) : Nat := run qD B n p
/-- the byte at p, or -1 behind the end -/
def pkI (B : Nat → Int) (n p : Nat) : Int := if p < n then B p % 256 else -1
theorem pkI_in {B : Nat → Int} {n p : Nat} (h : p < n) : pkI B n p = B p % 256 := by
  unfold pkI
  rw [if_pos h]
theorem pkI_out {B : Nat → Int} {n p : Nat} (h : ¬ p < n) : pkI B n p = -1 := by
  unfold pkI
  rw [if_neg h]
/-- a number: what the digits say, 10000 for all that is greater than 9999 -/
def dvF (B : Nat → Int) (n : Nat) : Nat → Nat → Int → Int
  | 0, _, v => v
  | f + 1, p, v => if p < n ∧ qD (B p) = true then dvF B n f (p + 1) (min (v * 10 + B p - 48) 10000) else v
def dvI (B : Nat → Int) (n p : Nat) (v : Int) : Int := dvF B n (n - p) p v
theorem dv_go {B : Nat → Int} {n p : Nat} {v : Int} (h : p < n) (q : qD (B p) = true) : dvI B n p v = dvI B n (p + 1) (min (v * 10 + B p - 48) 10000) := by
  unfold dvI
  rw [show n - p = (n - (p + 1)) + 1 by omega]
  show (if p < n ∧ qD (B p) = true then dvF B n (n - (p + 1)) (p + 1) (min (v * 10 + B p - 48) 10000) else v) = _
  rw [if_pos ⟨h, q⟩]
theorem dv_stop {B : Nat → Int} {n p : Nat} {v : Int} (h : ¬ (p < n ∧ qD (B p) = true)) : dvI B n p v = v := by
  unfold dvI
  cases e : n - p with
  | zero => rfl
  | succ f =>
    show (if p < n ∧ qD (B p) = true then dvF B n f (p + 1) (min (v * 10 + B p - 48) 10000) else v) = v
    rw [if_neg h]
/-- the reference's number, cut at 10000, is the class's -/
theorem dv_ref {B : Nat → Int} {n p : Nat} {v : Int} (h : p < n) (q : qD (B p) = true) (hv : 0 ≤ v) : dvI B n p (min v 10000) = dvI B n (p + 1) (min (if v > 9999 then v else 10 * v + B p - 48) 10000) := by
  have d := qD_iff.mp q
  rw [dv_go h q]
  congr 1
  by_cases c : v > 9999
  · rw [if_pos c]
    omega
  · rw [if_neg c]
    omega
/-- a word of small letters as the reference packs it: 0 for eight and more -/
def wvF (B : Nat → Int) (n s : Nat) : Nat → Nat → Int → Int
  | 0, _, w => w
  | f + 1, k, w => if k < n ∧ qS (B k) = true then (if k - s < 7 then wvF B n s f (k + 1) (w * 32 + B k - 96) else 0) else w
def wvI (B : Nat → Int) (n s k : Nat) (w : Int) : Int := wvF B n s (n - k) k w
theorem wv_go {B : Nat → Int} {n s k : Nat} {w : Int} (h : k < n) (q : qS (B k) = true) (h7 : k - s < 7) : wvI B n s k w = wvI B n s (k + 1) (w * 32 + B k - 96) := by
  unfold wvI
  rw [show n - k = (n - (k + 1)) + 1 by omega]
  show (if k < n ∧ qS (B k) = true then (if k - s < 7 then wvF B n s (n - (k + 1)) (k + 1) (w * 32 + B k - 96) else 0) else w) = _
  rw [if_pos ⟨h, q⟩, if_pos h7]
theorem wv_long {B : Nat → Int} {n s k : Nat} {w : Int} (h : k < n) (q : qS (B k) = true) (h7 : ¬ k - s < 7) : wvI B n s k w = 0 := by
  unfold wvI
  rw [show n - k = (n - (k + 1)) + 1 by omega]
  show (if k < n ∧ qS (B k) = true then (if k - s < 7 then wvF B n s (n - (k + 1)) (k + 1) (w * 32 + B k - 96) else 0) else w) = _
  rw [if_pos ⟨h, q⟩, if_neg h7]
theorem wv_stop {B : Nat → Int} {n s k : Nat} {w : Int} (h : ¬ (k < n ∧ qS (B k) = true)) : wvI B n s k w = w := by
  unfold wvI
  cases e : n - k with
  | zero => rfl
  | succ f =>
    show (if k < n ∧ qS (B k) = true then (if k - s < 7 then wvF B n s f (k + 1) (w * 32 + B k - 96) else 0) else w) = w
    rw [if_neg h]
/-- whether the word cs stands at p -/
def isW (cs : List Int) (B : Nat → Int) (n p : Nat) : Prop := ltI B n p = p + cs.length ∧ ∀ j : Nat, j < cs.length → B (p + j) = cs.getD j 0
/-- the packed form of a word -/
def pkW : List Int → Int → Int
  | [], w => w
  | c :: cs, w => pkW cs (w * 32 + c - 96)
theorem wv_word {B : Nat → Int} {n s : Nat} : ∀ (cs : List Int) (k : Nat) (w : Int), ltI B n k = k + cs.length → (∀ j : Nat, j < cs.length → B (k + j) = cs.getD j 0) → k + cs.length ≤ s + 7 → wvI B n s k w = pkW cs w
  | [], k, w, h1, _, _ => by
    have e : run qS B n k = k := h1
    have h := run_end (Q := qS) (B := B) (n := n) k
    rw [e] at h
    exact wv_stop h
  | c :: cs, k, w, h1, h2, h3 => by
    have e : run qS B n k = k + (cs.length + 1) := h1
    have hin := run_in (Q := qS) (B := B) (n := n) k k (Nat.le_refl _) (by omega)
    have hc : B k = c := h2 0 (Nat.succ_pos _)
    have h3' : k + (cs.length + 1) ≤ s + 7 := h3
    rw [wv_go hin.1 hin.2 (by omega), hc]
    refine wv_word cs (k + 1) _ ?_ (fun j hj => ?_) (by omega)
    · show run qS B n (k + 1) = k + 1 + cs.length
      rw [← run_go hin.1 hin.2, e]
      omega
    · have := h2 (j + 1) (Nat.succ_lt_succ hj)
      rw [show k + 1 + j = k + (j + 1) by omega, this]
      rfl
