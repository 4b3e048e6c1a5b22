section ST16
/-- the nearer of two, -1 where there is none -/
def nrI (x y : Int32) : Int32 := if x = (-1) then y else if y = (-1) then x else if y < x then y else x
theorem lsQ_nr {P Q : Nat → Prop} {K : Nat} {x y : Int32} (hK : K < 2 ^ 31) (a : lsQ P K x) (b : lsQ Q K y) : lsQ (fun m => P m ∨ Q m) K (nrI x y) := by
  unfold nrI
  rcases a with ⟨e, n⟩ | ⟨i, li, ei, pi, qi⟩
  · rw [if_pos e]
    exact lsQ_l n b
  · have nx : ¬ x = (-1) := fun h => nI_nm1 (by omega) (ei.symm.trans h)
    rw [if_neg nx]
    rcases b with ⟨e, n⟩ | ⟨j, lj, ej, pj, qj⟩
    · rw [if_pos e]
      exact lsQ_r n (Or.inr ⟨i, li, ei, pi, qi⟩)
    · have ny : ¬ y = (-1) := fun h => nI_nm1 (by omega) (ej.symm.trans h)
      rw [if_neg ny, ei, ej]
      have h := lsQ_or li lj pi pj qi qj
      by_cases l : j < i
      · rw [if_pos ((nI_ltI (by omega) (by omega)).mpr l)]
        rw [if_pos (by omega)] at h
        exact h
      · rw [if_neg (fun q => l ((nI_ltI (by omega) (by omega)).mp q))]
        by_cases e : j ≤ i
        · rw [if_pos e] at h
          have : i = j := by omega
          rw [this]
          exact h
        · rw [if_neg e] at h
          exact h
end ST16
