/-! THE ROLES: 0 the shop; 1 a plan (0 the stair's, 1 one of the ring, 2 the trial), its arrays 20 .. 27; 4 the ring; 5 rows laid (0 the shop's, 1 the search's), the grid 30, its rows 100 .. 112; 6 a verdict; 7 the reader, 32 .. 36; 8 the search, 37, 38; 9 the bench, 39, 31; 10 a law (parts, rels, primed in one number), 120 .. 123; 28 the sheet; 11 the reference, its arrays 60 .. 86 -/
abbrev fI : Ft := (0, -2147483648, 2147483647)
abbrev fAll : Nat → Int × Int := fun _ => (-2147483648, 2147483647)
/-- the reference's row of numbers: 4 the flights, 5 .. 7 their treads, 19 the beams, 44 the laws, 45 .. 52 their slots -/
def nowB (i : Nat) : Int × Int := if i = 4 then (0, 3) else if Nat.ble 5 i && Nat.ble i 7 then (0, 20) else if i = 19 then (0, 8) else if i = 44 then (0, 8) else if Nat.ble 45 i && Nat.ble i 52 then (0, 49) else (-2147483648, 2147483647)
def pastB (i : Nat) : Int × Int := nowB (i % 53)
def tObj : Ro → Option (Nat × List Ft) := fun r => match r.1 with
  | 0 => some (8, [(1, 1, 0), (1, 4, 0), (1, 5, 0), (1, 6, 0), (1, 7, 0), (1, 8, 0), (1, 9, 0), (1, 28, 0), (0, 0, 264), fI, (0, 0, 1)])
  | 1 => some (3, [fI, fI, fI, fI, (0, 0, 3), fI, (0, 0, 8), (0, 0, 8), (1, 20, r.2), (1, 21, r.2), (1, 22, r.2), (1, 23, r.2), (1, 24, r.2), (1, 25, r.2), (1, 26, r.2), (1, 27, r.2)])
  | 4 => some (2, [(1, 29, 0), (0, 0, 39), (0, 0, 40)])
  | 5 => some (5, [(1, 30, r.2), (0, 0, 66), fI, fI, fI])
  | 6 => some (7, [(0, 0, 1), fI, fI, fI])
  | 7 => some (4, [(1, 32, 0), (0, 0, 120), (0, 0, 120), (0, 0, 120), fI, fI, (0, 0, 1), (0, 0, 1), (0, 0, 4), (0, 0, 64), (1, 33, 0), (1, 34, 0), (1, 35, 0), (1, 36, 0)])
  | 8 => some (6, [(1, 1, 2), (1, 5, 1), (1, 6, 1), (1, 37, 0), (1, 38, 0), (0, 0, 1), fI, (0, 0, 2000), fI, fI, fI])
  | 9 => some (0, [(1, 39, 0), (1, 31, 0), (0, 0, 12)])
  | 10 => some (1, [(0, 0, 1), (0, (r.2 % 2 : Nat), (r.2 % 2 : Nat)), (1, 120, r.2), (1, 121, r.2), (1, 122, r.2), (1, 123, r.2)])
  | 11 => some (9, [(1, 60, 0), (1, 61, 0), (0, 0, 40), fI, (0, 0, 1), fI, fI, (1, 62, 0), (0, 0, 66), (1, 63, 0), (1, 64, 0), (1, 65, 0), (1, 66, 0), (1, 67, 0), (1, 68, 0), (1, 69, 0), (1, 70, 0), (1, 71, 0), (1, 72, 0), (1, 73, 0), (0, 0, 120), (0, 0, 120), (0, 0, 120), (1, 74, 0), (1, 75, 0), (1, 76, 0), (1, 77, 0), (1, 78, 0), (1, 79, 0), (1, 80, 0), fI, fI, fI, (1, 81, 0), (1, 82, 0), (0, 0, 2000), fI, fI, (0, 0, 3), fI, (0, 0, 1), (0, 0, 1), (1, 83, 0), (1, 84, 0), (1, 85, 0), (0, 0, 12), (1, 86, 0), (0, 0, 264)])
  | _ => none
/-- used[0] stays 0 -/
def usedB (i : Nat) : Int × Int := if i = 0 then (0, 0) else (-2147483648, 2147483647)
theorem ub_o {i : Nat} (h : i ≠ 0) : usedB i = (-2147483648, 2147483647) := by
  unfold usedB
  rw [if_neg h]
theorem ub_low (i : Nat) : (usedB i).1 ≤ 0 ∧ 0 ≤ (usedB i).2 := by
  unfold usedB
  by_cases h : i = 0
  · rw [if_pos h]
    decide
  · rw [if_neg h]
    decide
def tInt : Ro → Option (Nat × Nat × (Nat → Int × Int)) := fun r => match r.1 with
  | 20 => some (0, 3, fAll)
  | 21 => some (0, 3, fAll)
  | 22 => some (0, 2, fAll)
  | 23 => some (0, 8, fAll)
  | 24 => some (0, 8, fAll)
  | 25 => some (0, 8, fAll)
  | 26 => some (0, 5, fAll)
  | 28 => some (0, 264, fAll)
  | 31 => some (0, 4096, usedB)
  | 32 => some (1, 120, fun _ => (-128, 127))
  | 33 => some (0, 4, fun _ => (0, 64))
  | 34 => some (0, 64, fAll)
  | 35 => some (0, 64, fun _ => (0, 12))
  | 36 => some (0, 64, fun _ => (0, 1))
  | 37 => some (0, 200, fAll)
  | 38 => some (0, 3, fAll)
  | 39 => some (0, 12, fun _ => (0, 10000))
  | 60 => some (0, 53, nowB)
  | 61 => some (0, 2120, pastB)
  | 62 => some (0, 3, fun _ => (0, 20))
  | 63 => some (0, 66, fun _ => (0, 3))
  | 64 => some (0, 67, fAll)
  | 65 => some (0, 66, fAll)
  | 66 => some (0, 66, fAll)
  | 67 => some (0, 66, fAll)
  | 68 => some (0, 66, fAll)
  | 69 => some (0, 66, fAll)
  | 70 => some (0, 66, fAll)
  | 71 => some (0, 66, fAll)
  | 72 => some (1, 120, fun _ => (-128, 127))
  | 73 => some (1, 120, fun _ => (-128, 127))
  | 74 => some (2, 50, fun _ => (0, 1))
  | 75 => some (2, 50, fun _ => (0, 1))
  | 76 => some (0, 50, fun _ => (0, 4))
  | 77 => some (0, 400, fun _ => (0, 8))
  | 78 => some (0, 3200, fAll)
  | 79 => some (0, 3200, fun _ => (0, 24))
  | 80 => some (0, 200, fAll)
  | 81 => some (0, 200, fAll)
  | 82 => some (0, 3, fun _ => (0, 20))
  | 83 => some (0, 12, fun _ => (0, 10000))
  | 84 => some (0, 4096, fAll)
  | 85 => some (0, 4096, fAll)
  | 86 => some (0, 264, fAll)
  | 100 => some (0, 66, fun _ => (0, 3))
  | 101 => some (0, 66, fAll)
  | 102 => some (0, 66, fAll)
  | 103 => some (0, 66, fAll)
  | 104 => some (0, 66, fAll)
  | 105 => some (0, 66, fAll)
  | 106 => some (0, 66, fAll)
  | 107 => some (0, 66, fAll)
  | 108 => some (0, 66, fAll)
  | 109 => some (0, 66, fAll)
  | 110 => some (0, 66, fAll)
  | 111 => some (0, 66, fAll)
  | 112 => some (0, 66, fAll)
  | 120 => some (0, r.2 / 2 % 8, fun _ => (0, (r.2 / 16 : Nat)))
  | 121 => some (0, r.2 / 16, fAll)
  | 122 => some (0, r.2 / 16, fun _ => (0, 12))
  | 123 => some (0, r.2 / 16, fun _ => (0, (r.2 % 2 : Nat)))
  | _ => none
def tRef : Ro → Option (Nat × Nat × (Nat → Ft)) := fun r => match r.1 with
  | 27 => some (3, 8, fun _ => (3, 10, 0))
  | 29 => some (4, 40, fun _ => (1, 1, 1))
  | 30 => some (5, 13, fun i => (1, 100 + i, r.2))
  | _ => none
abbrev TB : Tb := (tObj, tInt, tRef)
