theorem cs_I.putl {T : cm_T} {E : cm_E} {nx : Nat} (h : cs_I T E nx) {k : Nat} {z : Int} : cs_I T (cm_up E 104 k (4, z, z)) nx :=
  h.put (by decide) (fun _ => Or.inr (Or.inr (Or.inr (Or.inl ⟨rfl, z, rfl⟩))))
