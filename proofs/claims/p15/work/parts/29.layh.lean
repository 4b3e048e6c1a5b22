section LAYH
theorem nn_nI {z : Int32} (h : ¬ z < 0) : ∃ n : Nat, n < 2 ^ 31 ∧ z = nI n := by
  have h1 : 0 ≤ z.toInt := by
    have h2 := Int32.le_iff_toInt_le.mp (Int32.not_lt.mp h)
    simpa using h2
  refine ⟨z.toInt.toNat, ?_, ?_⟩
  · have h3 := Int32.toInt_lt z; omega
  · have h3 := Int32.toInt_lt z
    apply Int32.toInt_inj.mp
    rw [nI_toInt (by omega)]
    omega
theorem nI_dec (u : Nat) : nI (u + 1) + (-1) = nI u := by
  have h : nI (u + 1) = nI u + 1 := (nI_add u 1).symm
  rw [h]
  simp [Int32.add_assoc]
end LAYH
