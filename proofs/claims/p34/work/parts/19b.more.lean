theorem ai_setk {E E' : Ec} {a i k : Nat} {x : Int32} (h : isSet E E' a i x) (hk : k ≠ i) : ai E' a k = ai E a k := h.2.2 k hk
