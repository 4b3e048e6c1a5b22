section MDL
theorem nI_subN {a b : Nat} (h : a ≤ b) : nI b - nI a = nI (b - a) := by
  have h1 : nI b = nI (b - a) + nI a := by
    rw [nI_add]
    congr 1
    omega
  rw [h1, Int32.sub_eq_add_neg, Int32.add_assoc, Int32.add_right_neg, Int32.add_zero]
end MDL
