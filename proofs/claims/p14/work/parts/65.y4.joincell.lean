section ST12
theorem lw_cell {bc w h : Nat} {B1 B2 B5 B6 B7 f1 f2 f3 f4 f5 cf1 f_rule : Nat → Int32} {wt wh : Nat → Nat} {fo og : Nat → Int64} {x y z r rm u_thrown : Int32} (hbc : bc ≤ 10) (hw : w ≤ 10) (hh : h ≤ 10) (H : CI bc w h B1 B2 B5 B6 B7 f3 f4 wt wh) (hr0 : f_rule 0 = cf1 0) (a : (r = 1 ∧ (x < 0 ∨ ¬ x < nI w ∨ y < 0 ∨ ¬ y < nI h) ∧ og = fo) ∨ (r = 2 ∧ ¬ (x < 0 ∨ ¬ x < nI w ∨ y < 0 ∨ ¬ y < nI h) ∧ zo z ∧ og = fo) ∨ (r = 0 ∧ ¬ (x < 0 ∨ ¬ x < nI w ∨ y < 0 ∨ ¬ y < nI h) ∧ ∃ v, cvC f1 f2 f3 f4 f5 (cf1 0) (cl x y) z v ∧ og = vp_updL fo 0 v.toInt64)) (d : (u_thrown = 1 ∧ (x < 0 ∨ ¬ x < nI w ∨ y < 0 ∨ ¬ y < nI h)) ∨ (u_thrown = 2 ∧ ¬ (x < 0 ∨ ¬ x < nI w ∨ y < 0 ∨ ¬ y < nI h) ∧ zo z) ∨ (u_thrown = 0 ∧ ¬ (x < 0 ∨ ¬ x < nI w ∨ y < 0 ∨ ¬ y < nI h) ∧ cvM bc f1 f2 f5 B5 wt wh (f_rule 0) (cl x y) z rm)) : r = u_thrown ∧ (r = 0 → og 0 = rm.toInt64) := by
  rw [hr0] at d
  rcases a with ⟨a1, a2, a3⟩ | ⟨a1, a2, a3, a4⟩ | ⟨a1, a2, v, a3, a4⟩ <;> rcases d with ⟨d1, d2⟩ | ⟨d1, d2, d3⟩ | ⟨d1, d2, d3⟩
  · exact ⟨a1.trans d1.symm, fun q => absurd (a1.symm.trans q) (by decide)⟩
  · exact absurd a2 d2
  · exact absurd a2 d2
  · exact absurd d2 a2
  · exact ⟨a1.trans d1.symm, fun q => absurd (a1.symm.trans q) (by decide)⟩
  · exact (zo_M a3 d3).elim
  · exact absurd d2 a2
  · exact (zo_C d3 a3).elim
  · refine ⟨a1.trans d1.symm, fun _ => ?_⟩
    obtain ⟨i, hi, ei⟩ : ∃ j : Nat, j < w ∧ x = nI j := n_lt (fun q => a2 (Or.inl q)) (fun q => a2 (Or.inr (Or.inl (Int32.not_lt.mpr q)))) (by omega)
    obtain ⟨j, hj, ej⟩ : ∃ j : Nat, j < h ∧ y = nI j := n_lt (fun q => a2 (Or.inr (Or.inr (Or.inl q)))) (fun q => a2 (Or.inr (Or.inr (Or.inr (Int32.not_lt.mpr q))))) (by omega)
    have hc : cl x y = j * 10 + i := by rw [ei, ej]; exact cl_nI (by omega) (by omega)
    have hv : v = rm := cv_two hbc H (by rw [hc]; omega) (by rw [hc]; omega) a3 d3
    rw [a4, hv]
    rfl
end ST12
