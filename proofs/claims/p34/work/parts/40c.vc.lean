theorem vc_ty (ty : FieldType) (h : defaultValue ty = .int 0) (N : Nat) (cA : ClassId) : vp_cell cA (N, .inl (fun _ => 0)) = arrV cA N (fun _ => defaultValue ty) := by rw [h]; rfl
