def tmS (i : Nat) : Term := match i with | 0 => .string RX2 56 | 1 => .string RX2 64 | 2 => .string RX2 67 | 3 => .string RX2 70 | 4 => .string RX2 73 | 5 => .string RX2 76 | 6 => .string RX2 79 | 7 => .string RX2 82 | 8 => .string RX5 85 | 9 => .string RX5 90 | _ => .string RX5 99
def nmN : List String := ["RISER", "GOING", "NARROW", "HEAD", "WIDE", "COUNT", "NUMBER", "KIND"]
def tmN (i : Nat) : Term := .static RX2 (nmN.getD i "") "LStairShop$Name;"
abbrev fgn : List Cond := flatC (Jvm.Cond.and given_1 narrow_1)
theorem sw_1 : ∀ i, i < 11 → Cond.exactly (tmS i) "java/lang/String" ∈ fgn := by decide +kernel
theorem sw_2 : ∀ i, i < 11 → Cond.eq (.field (tmS i) "java/lang/String" "coder" "B") (.int 0) ∈ fgn := by decide +kernel
theorem sw_3 : ∀ i, i < 11 → Cond.arrayOf (.field (tmS i) "java/lang/String" "value" "[B") .byte ∈ fgn := by decide +kernel
theorem sw_4 : ∀ i, i < 11 → Cond.eq (.length (.field (tmS i) "java/lang/String" "value" "[B")) (.int (Int32.ofNat (lenS.getD i 0))) ∈ fgn := by decide +kernel
theorem sw_5 : ∀ i, i < 11 → ∀ j, j < lenS.getD i 0 → Cond.eq (.elem (.field (tmS i) "java/lang/String" "value" "[B") (.int (Int32.ofNat j))) (.int ((bytS.getD i []).getD j 0)) ∈ fgn := by decide +kernel
theorem sw_7 : ∀ i, i < 8 → Cond.exactly (tmN i) RX2 ∈ fgn := by decide +kernel
theorem sw_8 : ∀ i, i < 8 → Cond.eq (.field (tmN i) RX2 "row" "I") (.int (rowS.getD i 0)) ∈ fgn := by decide +kernel
theorem sw_9 : ∀ i, i < 8 → Cond.eq (.field (tmN i) RX2 "word" "Ljava/lang/String;") (tmS i) ∈ fgn := by decide +kernel
theorem sw_10 : ∀ i, i < 8 → Cond.eq (.elem (.static RX2 "ALL" "[LStairShop$Name;") (.int (Int32.ofNat i))) (tmN i) ∈ fgn := by decide +kernel
theorem sw_11 : ∀ i, i < 4 → Cond.eq (.elem (.static RX9 "SHEET_ROWS" "[I") (.int (Int32.ofNat i))) (.int (([0, 1, 3, 4] : List Int32).getD i 0)) ∈ fgn := by decide +kernel
