section LAYH
theorem nI_dec (u : Nat) : nI (u + 1) + (-1) = nI u := by
  have h : nI (u + 1) = nI u + 1 := (nI_add u 1).symm
  rw [h]
  simp [Int32.add_assoc]
end LAYH
