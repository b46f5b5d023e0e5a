theorem chr_all : ∀ i : Nat, i < 11 → ∀ j : Nat, j < 6 → ((((bytS.getD i []).getD j 0) &&& 255).toUInt32 % 65536).toInt32 = (bytS.getD i []).getD j 0 := by decide +kernel
theorem chr_val {i : Nat} {a v6 v7 v8 v10 : Int32} (h6 : v6 = (bytS.getD i []).getD a.toNatClampNeg 0) (h7 : v7.toInt = 255) (h8 : v8 = v6 &&& v7) (h10 : v10 = (v8.toUInt32 % 65536).toInt32) (hi : i < 11) (hj : a.toInt.toNat < 6) : v10 = (bytS.getD i []).getD a.toInt.toNat 0 := by
  have e7 : v7 = 255 := fa_k 255 h7
  have h6 : v6 = (bytS.getD i []).getD a.toInt.toNat 0 := h6
  rw [h10, h8, e7, h6]
  exact chr_all i hi _ hj
