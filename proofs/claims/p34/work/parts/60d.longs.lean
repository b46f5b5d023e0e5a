theorem nl_mulc {x y z : Int64} (c : Int) (h : z = x * y) (hy : y.toInt = c) (h1 : -9223372036854775808 ≤ x.toInt * c) (h2 : x.toInt * c < 9223372036854775808) : z.toInt = x.toInt * c := by
  rw [h, Int64.toInt_mul, hy, fl_bmod h1 h2]
