/-! words: the packed form tells the word (p14, p34) -/
theorem wv_eight {B : Nat → Int} {n s : Nat} (h : s + 8 ≤ ltI B n s) : ∀ (f k : Nat) (w : Int), k + f = s + 7 → s ≤ k → wvI B n s k w = 0
  | 0, k, w, hf, hk => by
    have q := run_in (Q := qS) (B := B) (n := n) s k hk (by show k < ltI B n s; omega)
    exact wv_long q.1 q.2 (by omega)
  | f + 1, k, w, hf, hk => by
    have q := run_in (Q := qS) (B := B) (n := n) s k hk (by show k < ltI B n s; omega)
    rw [wv_go q.1 q.2 (by omega)]
    exact wv_eight h f (k + 1) _ (by omega) (by omega)
/-- the same number from the last letter on -/
def vR : List Int → Int
  | [] => 0
  | c :: cs => vR cs * 32 + (c - 96)
theorem pkW_app (c : Int) : ∀ (cs : List Int) (w : Int), pkW (cs ++ [c]) w = pkW cs w * 32 + c - 96
  | [], _ => rfl
  | d :: cs, w => pkW_app c cs (w * 32 + d - 96)
theorem pkW_vR : ∀ cs : List Int, pkW cs.reverse 0 = vR cs
  | [] => rfl
  | c :: cs => by
    rw [List.reverse_cons, pkW_app, pkW_vR cs]
    show vR cs * 32 + c - 96 = vR cs * 32 + (c - 96)
    omega
theorem vR_pos : ∀ cs : List Int, (∀ c ∈ cs, 97 ≤ c ∧ c ≤ 122) → 0 ≤ vR cs
  | [], _ => Int.le_refl _
  | c :: cs, h => by
    have h1 := vR_pos cs (fun d hd => h d (List.mem_cons_of_mem _ hd))
    have h2 := h c (List.mem_cons_self ..)
    show 0 ≤ vR cs * 32 + (c - 96)
    omega
theorem vR_inj : ∀ a b : List Int, (∀ c ∈ a, 97 ≤ c ∧ c ≤ 122) → (∀ c ∈ b, 97 ≤ c ∧ c ≤ 122) → vR a = vR b → a = b
  | [], [], _, _, _ => rfl
  | [], d :: b, _, hb, h => by
    have h1 := vR_pos b (fun c hc => hb c (List.mem_cons_of_mem _ hc))
    have h2 := hb d (List.mem_cons_self ..)
    have h : (0 : Int) = vR b * 32 + (d - 96) := h
    omega
  | c :: a, [], ha, _, h => by
    have h1 := vR_pos a (fun d hd => ha d (List.mem_cons_of_mem _ hd))
    have h2 := ha c (List.mem_cons_self ..)
    have h : vR a * 32 + (c - 96) = (0 : Int) := h
    omega
  | c :: a, d :: b, ha, hb, h => by
    have h1 := ha c (List.mem_cons_self ..)
    have h2 := hb d (List.mem_cons_self ..)
    have h : vR a * 32 + (c - 96) = vR b * 32 + (d - 96) := h
    have e : vR a = vR b := by omega
    have e2 : c = d := by omega
    rw [e2, vR_inj a b (fun x hx => ha x (List.mem_cons_of_mem _ hx)) (fun x hx => hb x (List.mem_cons_of_mem _ hx)) e]
theorem pkW_inj {a b : List Int} (ha : ∀ c ∈ a, 97 ≤ c ∧ c ≤ 122) (hb : ∀ c ∈ b, 97 ≤ c ∧ c ≤ 122) (h : pkW a 0 = pkW b 0) : a = b := by
  have e : vR a.reverse = vR b.reverse := by
    rw [← pkW_vR, ← pkW_vR, List.reverse_reverse, List.reverse_reverse]
    exact h
  have q := vR_inj a.reverse b.reverse (fun c hc => ha c (List.mem_reverse.mp hc)) (fun c hc => hb c (List.mem_reverse.mp hc)) e
  have r := congrArg List.reverse q
  rw [List.reverse_reverse, List.reverse_reverse] at r
  exact r
theorem pkW_pos {c : Int} {a : List Int} (ha : ∀ x ∈ c :: a, 97 ≤ x ∧ x ≤ 122) : 0 < pkW (c :: a) 0 := by
  have h0 : 0 ≤ vR (c :: a).reverse := vR_pos _ (fun x hx => ha x (List.mem_reverse.mp hx))
  have e : pkW (c :: a) 0 = vR (c :: a).reverse := by rw [← pkW_vR, List.reverse_reverse]
  rcases Int.lt_or_eq_of_le h0 with q | q
  · rw [e]
    exact q
  · exfalso
    have z := vR_inj [] (c :: a).reverse (fun _ h => nomatch h) (fun x hx => ha x (List.mem_reverse.mp hx)) q
    have z2 : ([] : List Int).length = (c :: a).reverse.length := by rw [← z]
    rw [List.length_reverse] at z2
    exact absurd z2 (by simp)
/-- what the reference packs is the word's number just where the word stands -/
theorem wv_iff {B : Nat → Int} {n p : Nat} {c : Int} {cs : List Int} (hc : ∀ x ∈ c :: cs, 97 ≤ x ∧ x ≤ 122) (hl : (c :: cs).length ≤ 7) : wvI B n p p 0 = pkW (c :: cs) 0 ↔ isW (c :: cs) B n p := by
  constructor
  · intro h
    have hge : p ≤ ltI B n p := run_ge p
    by_cases h8 : p + 8 ≤ ltI B n p
    · have z := wv_eight h8 7 p 0 rfl (Nat.le_refl _)
      have := pkW_pos hc
      omega
    · obtain ⟨L, hL⟩ : ∃ L : Nat, ltI B n p = p + L := ⟨ltI B n p - p, by omega⟩
      have hg : ∀ j : Nat, j < L → ((List.range L).map (fun j => B (p + j))).getD j 0 = B (p + j) := fun j hj => by simp [List.getD_eq_getElem?_getD, hj]
      have hlen : ((List.range L).map (fun j => B (p + j))).length = L := by simp
      have q := wv_word (B := B) (n := n) (s := p) ((List.range L).map (fun j => B (p + j))) p 0 (by rw [hlen]; exact hL) (fun j hj => (hg j (by rw [hlen] at hj; exact hj)).symm) (by rw [hlen]; omega)
      have e : (List.range L).map (fun j => B (p + j)) = c :: cs := pkW_inj (fun x hx => by
        obtain ⟨j, hj, rfl⟩ := List.mem_map.mp hx
        have hj := List.mem_range.mp hj
        exact qS_iff.mp (run_in (Q := qS) (B := B) (n := n) p (p + j) (by omega) (by show p + j < ltI B n p; omega)).2) hc (q.symm.trans h)
      have eL : L = (c :: cs).length := by rw [← e, hlen]
      refine ⟨by rw [← eL]; exact hL, fun j hj => ?_⟩
      rw [← e]
      exact (hg j (by omega)).symm
  · intro h
    exact wv_word (c :: cs) p 0 h.1 h.2 (by omega)
/-- the words: riser going narrow head wide count number kind some all and -/
def wdS : List (List Int) := [[114, 105, 115, 101, 114], [103, 111, 105, 110, 103], [110, 97, 114, 114, 111, 119], [104, 101, 97, 100], [119, 105, 100, 101], [99, 111, 117, 110, 116], [110, 117, 109, 98, 101, 114], [107, 105, 110, 100], [115, 111, 109, 101], [97, 108, 108], [97, 110, 100]]
def wV (i : Nat) : Int := pkW (wdS.getD i []) 0
def nmV (w : Int) : Int := if w = wV 0 then 0 else if w = wV 1 then 1 else if w = wV 2 then 2 else if w = wV 3 then 3 else if w = wV 4 then 4 else if w = wV 5 then 5 else if w = wV 6 then 6 else if w = wV 7 then 7 else -1
theorem nmV_hit {w : Int} {i : Nat} (hi : i < 8) (q : ∀ j : Nat, j < i → w ≠ wV j) (e : w = wV i) : nmV w = (i : Int) := by
  unfold nmV
  rcases (show i = 0 ∨ i = 1 ∨ i = 2 ∨ i = 3 ∨ i = 4 ∨ i = 5 ∨ i = 6 ∨ i = 7 by omega) with rfl | rfl | rfl | rfl | rfl | rfl | rfl | rfl
  · rw [if_pos e]; rfl
  · rw [if_neg (q 0 (by omega)), if_pos e]; rfl
  · rw [if_neg (q 0 (by omega)), if_neg (q 1 (by omega)), if_pos e]; rfl
  · rw [if_neg (q 0 (by omega)), if_neg (q 1 (by omega)), if_neg (q 2 (by omega)), if_pos e]; rfl
  · rw [if_neg (q 0 (by omega)), if_neg (q 1 (by omega)), if_neg (q 2 (by omega)), if_neg (q 3 (by omega)), if_pos e]; rfl
  · rw [if_neg (q 0 (by omega)), if_neg (q 1 (by omega)), if_neg (q 2 (by omega)), if_neg (q 3 (by omega)), if_neg (q 4 (by omega)), if_pos e]; rfl
  · rw [if_neg (q 0 (by omega)), if_neg (q 1 (by omega)), if_neg (q 2 (by omega)), if_neg (q 3 (by omega)), if_neg (q 4 (by omega)), if_neg (q 5 (by omega)), if_pos e]; rfl
  · rw [if_neg (q 0 (by omega)), if_neg (q 1 (by omega)), if_neg (q 2 (by omega)), if_neg (q 3 (by omega)), if_neg (q 4 (by omega)), if_neg (q 5 (by omega)), if_neg (q 6 (by omega)), if_pos e]; rfl
theorem nmV_none {w : Int} (q : ∀ j : Nat, j < 8 → w ≠ wV j) : nmV w = -1 := by
  unfold nmV
  rw [if_neg (q 0 (by omega)), if_neg (q 1 (by omega)), if_neg (q 2 (by omega)), if_neg (q 3 (by omega)), if_neg (q 4 (by omega)), if_neg (q 5 (by omega)), if_neg (q 6 (by omega)), if_neg (q 7 (by omega))]
abbrev wdI (B : Nat → Int) (n p : Nat) : Int := wvI B n p p 0
/-! the law's grammar: (fault, place, where it goes on) -/
abbrev RdR : Type := Int × Int × Nat
def nameE (B : Nat → Int) (n q : Nat) : Nat := if pkI B n (skI B n (ltI B n q)) = 39 then skI B n (ltI B n q) + 1 else skI B n (ltI B n q)
abbrev isDg (c : Int) : Prop := 48 ≤ c ∧ c ≤ 57
/-- what comes behind a number -/
def timesI (B : Nat → Int) (n q : Nat) : RdR :=
  if pkI B n (skI B n q) = 42 then (if nmV (wdI B n (skI B n (skI B n q + 1))) = -1 then (1, (skI B n (skI B n q + 1) : Nat), 0) else (0, -1, nameE B n (skI B n (skI B n q + 1)))) else (0, -1, skI B n q)
/-- a part, the k-th of its sum, from s on (no blank there) -/
def partI (B : Nat → Int) (n k s : Nat) : RdR :=
  if isDg (pkI B n s) then (if dvI B n s 0 > 9999 then (2, (s : Nat), 0) else if 8 ≤ k then (3, (s : Nat), 0) else timesI B n (dgI B n s))
  else if nmV (wdI B n s) = -1 then (1, (s : Nat), 0) else if 8 ≤ k then (3, (s : Nat), 0) else (0, -1, nameE B n s)
def sumF (B : Nat → Int) (n : Nat) : Nat → Nat → Nat → RdR
  | 0, _, p => (0, -1, p)
  | f + 1, k, p => if (partI B n k (skI B n p)).1 ≠ 0 then partI B n k (skI B n p) else if pkI B n (skI B n (partI B n k (skI B n p)).2.2) = 43 ∨ pkI B n (skI B n (partI B n k (skI B n p)).2.2) = 45 then sumF B n f (k + 1) (skI B n (partI B n k (skI B n p)).2.2 + 1) else (0, -1, skI B n (partI B n k (skI B n p)).2.2)
def sumI (B : Nat → Int) (n p : Nat) : RdR := sumF B n 9 0 p
def relI (B : Nat → Int) (n p : Nat) : RdR := if pkI B n p = 60 ∨ pkI B n p = 62 then (if pkI B n (p + 1) = 61 then (0, -1, p + 2) else (1, ((p + 1 : Nat) : Int), 0)) else (1, (p : Nat), 0)
def compI (B : Nat → Int) (n p : Nat) : RdR := if (sumI B n p).1 ≠ 0 then sumI B n p else if (relI B n (sumI B n p).2.2).1 ≠ 0 then relI B n (sumI B n p).2.2 else sumI B n (relI B n (sumI B n p).2.2).2.2
def andI (B : Nat → Int) (n r q : Nat) : RdR := if wdI B n q = wV 10 then (if 4 ≤ r then (3, (q : Nat), 0) else (0, -1, ltI B n q)) else (1, (q : Nat), 0)
def relsF (B : Nat → Int) (n : Nat) : Nat → Nat → Nat → RdR
  | 0, _, p => (0, -1, p)
  | f + 1, r, p => if (compI B n p).1 ≠ 0 then compI B n p else if pkI B n (compI B n p).2.2 = -1 then (0, -1, (compI B n p).2.2) else if (andI B n (r + 1) (compI B n p).2.2).1 ≠ 0 then andI B n (r + 1) (compI B n p).2.2 else relsF B n f (r + 1) (andI B n (r + 1) (compI B n p).2.2).2.2
def quantI (B : Nat → Int) (n p : Nat) : RdR := if wdI B n (skI B n p) = wV 8 ∨ wdI B n (skI B n p) = wV 9 then (0, -1, ltI B n (skI B n p)) else (1, (skI B n p : Nat), 0)
def readI (B : Nat → Int) (n : Nat) : RdR := if (quantI B n 0).1 ≠ 0 then quantI B n 0 else relsF B n 4 0 (quantI B n 0).2.2
/-! the grammar's cases, one by one -/
theorem nameE_q {B : Nat → Int} {n q : Nat} (h : pkI B n (skI B n (ltI B n q)) = 39) : nameE B n q = skI B n (ltI B n q) + 1 := by
  unfold nameE
  rw [if_pos h]
theorem nameE_p {B : Nat → Int} {n q : Nat} (h : ¬ pkI B n (skI B n (ltI B n q)) = 39) : nameE B n q = skI B n (ltI B n q) := by
  unfold nameE
  rw [if_neg h]
theorem times_no {B : Nat → Int} {n q : Nat} (h : ¬ pkI B n (skI B n q) = 42) : timesI B n q = (0, -1, skI B n q) := by
  unfold timesI
  rw [if_neg h]
theorem times_bad {B : Nat → Int} {n q : Nat} (h : pkI B n (skI B n q) = 42) (hn : nmV (wdI B n (skI B n (skI B n q + 1))) = -1) : timesI B n q = (1, ((skI B n (skI B n q + 1) : Nat) : Int), 0) := by
  unfold timesI
  rw [if_pos h, if_pos hn]
theorem times_ok {B : Nat → Int} {n q : Nat} (h : pkI B n (skI B n q) = 42) (hn : ¬ nmV (wdI B n (skI B n (skI B n q + 1))) = -1) : timesI B n q = (0, -1, nameE B n (skI B n (skI B n q + 1))) := by
  unfold timesI
  rw [if_pos h, if_neg hn]
theorem part_big {B : Nat → Int} {n k s : Nat} (hd : isDg (pkI B n s)) (hv : dvI B n s 0 > 9999) : partI B n k s = (2, ((s : Nat) : Int), 0) := by
  unfold partI
  rw [if_pos hd, if_pos hv]
theorem part_long {B : Nat → Int} {n k s : Nat} (hd : isDg (pkI B n s)) (hv : ¬ dvI B n s 0 > 9999) (hk : 8 ≤ k) : partI B n k s = (3, ((s : Nat) : Int), 0) := by
  unfold partI
  rw [if_pos hd, if_neg hv, if_pos hk]
theorem part_num {B : Nat → Int} {n k s : Nat} (hd : isDg (pkI B n s)) (hv : ¬ dvI B n s 0 > 9999) (hk : ¬ 8 ≤ k) : partI B n k s = timesI B n (dgI B n s) := by
  unfold partI
  rw [if_pos hd, if_neg hv, if_neg hk]
theorem part_no {B : Nat → Int} {n k s : Nat} (hd : ¬ isDg (pkI B n s)) (hn : nmV (wdI B n s) = -1) : partI B n k s = (1, ((s : Nat) : Int), 0) := by
  unfold partI
  rw [if_neg hd, if_pos hn]
theorem part_nlong {B : Nat → Int} {n k s : Nat} (hd : ¬ isDg (pkI B n s)) (hn : ¬ nmV (wdI B n s) = -1) (hk : 8 ≤ k) : partI B n k s = (3, ((s : Nat) : Int), 0) := by
  unfold partI
  rw [if_neg hd, if_neg hn, if_pos hk]
theorem part_name {B : Nat → Int} {n k s : Nat} (hd : ¬ isDg (pkI B n s)) (hn : ¬ nmV (wdI B n s) = -1) (hk : ¬ 8 ≤ k) : partI B n k s = (0, -1, nameE B n s) := by
  unfold partI
  rw [if_neg hd, if_neg hn, if_neg hk]
/-- fault f, place w, going on at p: as the grammar says -/
def Did (f w p : Int) (R : RdR) : Prop := f = R.1 ∧ (R.1 ≠ 0 → w = R.2.1) ∧ (R.1 = 0 → p = (R.2.2 : Int))
theorem Did.bad {f w p c x : Int} {y : Nat} (hc : c ≠ 0) (hf : f = c) (hw : w = x) : Did f w p (c, x, y) := ⟨hf, fun _ => hw, fun h => absurd h hc⟩
theorem Did.ok {f w p x : Int} {y : Nat} (hf : f = 0) (hp : p = (y : Int)) : Did f w p (0, x, y) := ⟨hf, fun h => absurd rfl h, fun _ => hp⟩
theorem rel_no {B : Nat → Int} {n p : Nat} (h : ¬ (pkI B n p = 60 ∨ pkI B n p = 62)) : relI B n p = (1, ((p : Nat) : Int), 0) := by
  unfold relI
  rw [if_neg h]
theorem rel_bad {B : Nat → Int} {n p : Nat} (h : pkI B n p = 60 ∨ pkI B n p = 62) (h2 : ¬ pkI B n (p + 1) = 61) : relI B n p = (1, ((p + 1 : Nat) : Int), 0) := by
  unfold relI
  rw [if_pos h, if_neg h2]
theorem rel_ok {B : Nat → Int} {n p : Nat} (h : pkI B n p = 60 ∨ pkI B n p = 62) (h2 : pkI B n (p + 1) = 61) : relI B n p = (0, -1, p + 2) := by
  unfold relI
  rw [if_pos h, if_pos h2]
theorem quant_ok {B : Nat → Int} {n p : Nat} (h : wdI B n (skI B n p) = wV 8 ∨ wdI B n (skI B n p) = wV 9) : quantI B n p = (0, -1, ltI B n (skI B n p)) := by
  unfold quantI
  rw [if_pos h]
theorem quant_no {B : Nat → Int} {n p : Nat} (h : ¬ (wdI B n (skI B n p) = wV 8 ∨ wdI B n (skI B n p) = wV 9)) : quantI B n p = (1, ((skI B n p : Nat) : Int), 0) := by
  unfold quantI
  rw [if_neg h]
theorem and_no {B : Nat → Int} {n r q : Nat} (h : ¬ wdI B n q = wV 10) : andI B n r q = (1, ((q : Nat) : Int), 0) := by
  unfold andI
  rw [if_neg h]
theorem and_long {B : Nat → Int} {n r q : Nat} (h : wdI B n q = wV 10) (hr : 4 ≤ r) : andI B n r q = (3, ((q : Nat) : Int), 0) := by
  unfold andI
  rw [if_pos h, if_pos hr]
theorem and_ok {B : Nat → Int} {n r q : Nat} (h : wdI B n q = wV 10) (hr : ¬ 4 ≤ r) : andI B n r q = (0, -1, ltI B n q) := by
  unfold andI
  rw [if_pos h, if_neg hr]
theorem part8 {B : Nat → Int} {n k s : Nat} (hk : 8 ≤ k) : (partI B n k s).1 ≠ 0 := by
  unfold partI
  by_cases c : isDg (pkI B n s)
  · rw [if_pos c]
    by_cases d : dvI B n s 0 > 9999
    · rw [if_pos d]
      show (2 : Int) ≠ 0
      decide
    · rw [if_neg d, if_pos hk]
      show (3 : Int) ≠ 0
      decide
  · rw [if_neg c]
    by_cases d : nmV (wdI B n s) = -1
    · rw [if_pos d]
      show (1 : Int) ≠ 0
      decide
    · rw [if_neg d, if_pos hk]
      show (3 : Int) ≠ 0
      decide
theorem sum_bad {B : Nat → Int} {n f k p : Nat} (h : (partI B n k (skI B n p)).1 ≠ 0) : sumF B n (f + 1) k p = partI B n k (skI B n p) := by
  show (if (partI B n k (skI B n p)).1 ≠ 0 then _ else _) = _
  rw [if_pos h]
theorem sum_end {B : Nat → Int} {n f k p : Nat} (h : ¬ (partI B n k (skI B n p)).1 ≠ 0) (h2 : ¬ (pkI B n (skI B n (partI B n k (skI B n p)).2.2) = 43 ∨ pkI B n (skI B n (partI B n k (skI B n p)).2.2) = 45)) : sumF B n (f + 1) k p = (0, -1, skI B n (partI B n k (skI B n p)).2.2) := by
  show (if (partI B n k (skI B n p)).1 ≠ 0 then _ else _) = _
  rw [if_neg h, if_neg h2]
theorem sum_go {B : Nat → Int} {n f k p : Nat} (h : ¬ (partI B n k (skI B n p)).1 ≠ 0) (h2 : pkI B n (skI B n (partI B n k (skI B n p)).2.2) = 43 ∨ pkI B n (skI B n (partI B n k (skI B n p)).2.2) = 45) : sumF B n (f + 1) k p = sumF B n f (k + 1) (skI B n (partI B n k (skI B n p)).2.2 + 1) := by
  show (if (partI B n k (skI B n p)).1 ≠ 0 then _ else _) = _
  rw [if_neg h, if_pos h2]
theorem Did.mv {f w p p' : Int} {R : RdR} (h : Did f w p R) (hf : f ≠ 0) : Did f w p' R := ⟨h.1, h.2.1, fun z => absurd (h.1.trans z) hf⟩
theorem comp_1 {B : Nat → Int} {n p : Nat} (h : (sumI B n p).1 ≠ 0) : compI B n p = sumI B n p := by
  unfold compI
  rw [if_pos h]
theorem comp_2 {B : Nat → Int} {n p : Nat} (h : ¬ (sumI B n p).1 ≠ 0) (h2 : (relI B n (sumI B n p).2.2).1 ≠ 0) : compI B n p = relI B n (sumI B n p).2.2 := by
  unfold compI
  rw [if_neg h, if_pos h2]
theorem comp_3 {B : Nat → Int} {n p : Nat} (h : ¬ (sumI B n p).1 ≠ 0) (h2 : ¬ (relI B n (sumI B n p).2.2).1 ≠ 0) : compI B n p = sumI B n (relI B n (sumI B n p).2.2).2.2 := by
  unfold compI
  rw [if_neg h, if_neg h2]
theorem sum_sk {B : Nat → Int} {n : Nat} : ∀ f k p : Nat, k + (f + 1) = 9 → (sumF B n (f + 1) k p).1 = 0 → skI B n (sumF B n (f + 1) k p).2.2 = (sumF B n (f + 1) k p).2.2
  | f, k, p, hk, h => by
    by_cases c : (partI B n k (skI B n p)).1 ≠ 0
    · rw [sum_bad c] at h
      exact absurd h c
    · by_cases d : pkI B n (skI B n (partI B n k (skI B n p)).2.2) = 43 ∨ pkI B n (skI B n (partI B n k (skI B n p)).2.2) = 45
      · rw [sum_go c d] at h ⊢
        cases f with
        | zero => exact absurd (part8 (B := B) (n := n) (k := k) (s := skI B n p) (by omega)) c
        | succ f => exact sum_sk f (k + 1) _ (by omega) h
      · rw [sum_end c d]
        exact run_self _
theorem sumI_sk {B : Nat → Int} {n p : Nat} (h : (sumI B n p).1 = 0) : skI B n (sumI B n p).2.2 = (sumI B n p).2.2 := sum_sk 8 0 p rfl h
theorem comp_sk {B : Nat → Int} {n p : Nat} (h : (compI B n p).1 = 0) : skI B n (compI B n p).2.2 = (compI B n p).2.2 := by
  by_cases c : (sumI B n p).1 ≠ 0
  · rw [comp_1 c] at h
    exact absurd h c
  · by_cases d : (relI B n (sumI B n p).2.2).1 ≠ 0
    · rw [comp_2 c d] at h
      exact absurd h d
    · rw [comp_3 c d] at h ⊢
      exact sumI_sk h
theorem rels_bad {B : Nat → Int} {n f r p : Nat} (h : (compI B n p).1 ≠ 0) : relsF B n (f + 1) r p = compI B n p := by
  show (if (compI B n p).1 ≠ 0 then _ else _) = _
  rw [if_pos h]
theorem rels_end {B : Nat → Int} {n f r p : Nat} (h : ¬ (compI B n p).1 ≠ 0) (h2 : pkI B n (compI B n p).2.2 = -1) : relsF B n (f + 1) r p = (0, -1, (compI B n p).2.2) := by
  show (if (compI B n p).1 ≠ 0 then _ else _) = _
  rw [if_neg h, if_pos h2]
theorem rels_and {B : Nat → Int} {n f r p : Nat} (h : ¬ (compI B n p).1 ≠ 0) (h2 : ¬ pkI B n (compI B n p).2.2 = -1) (h3 : (andI B n (r + 1) (compI B n p).2.2).1 ≠ 0) : relsF B n (f + 1) r p = andI B n (r + 1) (compI B n p).2.2 := by
  show (if (compI B n p).1 ≠ 0 then _ else _) = _
  rw [if_neg h, if_neg h2, if_pos h3]
theorem rels_go {B : Nat → Int} {n f r p : Nat} (h : ¬ (compI B n p).1 ≠ 0) (h2 : ¬ pkI B n (compI B n p).2.2 = -1) (h3 : ¬ (andI B n (r + 1) (compI B n p).2.2).1 ≠ 0) : relsF B n (f + 1) r p = relsF B n f (r + 1) (andI B n (r + 1) (compI B n p).2.2).2.2 := by
  show (if (compI B n p).1 ≠ 0 then _ else _) = _
  rw [if_neg h, if_neg h2, if_neg h3]
theorem read_bad {B : Nat → Int} {n : Nat} (h : (quantI B n 0).1 ≠ 0) : readI B n = quantI B n 0 := by
  unfold readI
  rw [if_pos h]
theorem read_go {B : Nat → Int} {n : Nat} (h : ¬ (quantI B n 0).1 ≠ 0) : readI B n = relsF B n 4 0 (quantI B n 0).2.2 := by
  unfold readI
  rw [if_neg h]
/-- fault f, place w: as the grammar says -/
def DidF (f w : Int) (R : RdR) : Prop := f = R.1 ∧ (R.1 ≠ 0 → w = R.2.1)
theorem Did.f {f w p : Int} {R : RdR} (h : Did f w p R) : DidF f w R := ⟨h.1, h.2.1⟩
theorem DidF.ok {f w x : Int} {y : Nat} (hf : f = 0) : DidF f w (0, x, y) := ⟨hf, fun h => absurd rfl h⟩
theorem ne_b {c x : Int} {y : Nat} (h : c ≠ 0) : ((c, x, y) : RdR).1 ≠ 0 := h
/-! no fault is below 0 -/
theorem ite_ge {c : Prop} [Decidable c] {a b : RdR} (ha : 0 ≤ a.1) (hb : 0 ≤ b.1) : 0 ≤ (if c then a else b).1 := by
  by_cases h : c
  · rw [if_pos h]
    exact ha
  · rw [if_neg h]
    exact hb
theorem ge_c {c x : Int} {y : Nat} (h : 0 ≤ c) : 0 ≤ ((c, x, y) : RdR).1 := h
theorem times_ge {B : Nat → Int} {n q : Nat} : 0 ≤ (timesI B n q).1 := by
  unfold timesI
  exact ite_ge (ite_ge (ge_c (by decide)) (ge_c (by decide))) (ge_c (by decide))
theorem part_ge {B : Nat → Int} {n k s : Nat} : 0 ≤ (partI B n k s).1 := by
  unfold partI
  exact ite_ge (ite_ge (ge_c (by decide)) (ite_ge (ge_c (by decide)) times_ge)) (ite_ge (ge_c (by decide)) (ite_ge (ge_c (by decide)) (ge_c (by decide))))
theorem sum_ge {B : Nat → Int} {n : Nat} : ∀ f k p : Nat, 0 ≤ (sumF B n f k p).1
  | 0, _, _ => ge_c (by decide)
  | f + 1, k, p => by
    show 0 ≤ (if (partI B n k (skI B n p)).1 ≠ 0 then _ else _ : RdR).1
    exact ite_ge part_ge (ite_ge (sum_ge f (k + 1) _) (ge_c (by decide)))
theorem rel_ge {B : Nat → Int} {n p : Nat} : 0 ≤ (relI B n p).1 := by
  unfold relI
  exact ite_ge (ite_ge (ge_c (by decide)) (ge_c (by decide))) (ge_c (by decide))
theorem comp_ge {B : Nat → Int} {n p : Nat} : 0 ≤ (compI B n p).1 := by
  unfold compI
  exact ite_ge (sum_ge 9 0 p) (ite_ge rel_ge (sum_ge 9 0 _))
theorem and_ge {B : Nat → Int} {n r q : Nat} : 0 ≤ (andI B n r q).1 := by
  unfold andI
  exact ite_ge (ite_ge (ge_c (by decide)) (ge_c (by decide))) (ge_c (by decide))
theorem quant_ge {B : Nat → Int} {n p : Nat} : 0 ≤ (quantI B n p).1 := by
  unfold quantI
  exact ite_ge (ge_c (by decide)) (ge_c (by decide))
theorem rels_ge {B : Nat → Int} {n : Nat} : ∀ f r p : Nat, 0 ≤ (relsF B n f r p).1
  | 0, _, _ => ge_c (by decide)
  | f + 1, r, p => by
    show 0 ≤ (if (compI B n p).1 ≠ 0 then _ else _ : RdR).1
    exact ite_ge comp_ge (ite_ge (ge_c (by decide)) (ite_ge and_ge (rels_ge f (r + 1) _)))
theorem read_ge {B : Nat → Int} {n : Nat} : 0 ≤ (readI B n).1 := by
  unfold readI
  exact ite_ge quant_ge (rels_ge 4 0 _)
theorem and_lt {B : Nat → Int} {n r q : Nat} (h : (andI B n r q).1 = 0) : r < 4 := by
  by_cases c : wdI B n q = wV 10
  · by_cases d : 4 ≤ r
    · rw [and_long c d] at h
      exact absurd h (ne_b (by decide))
    · omega
  · rw [and_no c] at h
    exact absurd h (ne_b (by decide))
