section ST17
/-- what stepsAt tells of a cell -/
theorem at_nb {F : Nat → Prop} {s w h : Nat} {t : Nat → Int32} {x y r : Int32} (hw : w ≤ 10) (hh : h ≤ 10) (hF : ∀ c, F c → c % 10 < w ∧ c / 10 < h) (H : stC F s t) (p : ((x < 0 ∨ ¬ x < nI w ∨ y < 0 ∨ ¬ y < nI h) ∧ r = (-1)) ∨ (¬ (x < 0 ∨ ¬ x < nI w ∨ y < 0 ∨ ¬ y < nI h) ∧ r = t (cl x y))) : lsQ (fun m => ∃ d : Nat, ((d % 10 : Nat) : Int) = x.toInt ∧ ((d / 10 : Nat) : Int) = y.toInt ∧ wlk F s m d) 99 r := by
  rcases p with ⟨o, e⟩ | ⟨o, e⟩
  · refine Or.inl ⟨e, fun m q => ?_⟩
    obtain ⟨d, d1, d2, k⟩ := q
    have f := hF d (wlk_F k)
    have z := out_z hw hh o
    omega
  · obtain ⟨i, hi, ei⟩ : ∃ j : Nat, j < w ∧ x = nI j := n_lt (fun q => o (Or.inl q)) (fun q => o (Or.inr (Or.inl (Int32.not_lt.mpr q)))) (by omega)
    obtain ⟨j, hj, ej⟩ : ∃ j : Nat, j < h ∧ y = nI j := n_lt (fun q => o (Or.inr (Or.inr (Or.inl q)))) (fun q => o (Or.inr (Or.inr (Or.inr (Int32.not_lt.mpr q))))) (by omega)
    have zi := in_z ei (by omega)
    have zj := in_z ej (by omega)
    have hc : cl x y = j * 10 + i := by rw [ei, ej]; exact cl_nI (by omega) (by omega)
    rw [hc] at e
    have ed : ∀ {d : Nat}, ((d % 10 : Nat) : Int) = x.toInt → ((d / 10 : Nat) : Int) = y.toInt → d = j * 10 + i := by
      intro d d1 d2
      omega
    rcases H (j * 10 + i) (by omega) with ⟨z, n⟩ | ⟨m, l, z, k, q⟩
    · refine Or.inl ⟨e.trans z, fun m q => ?_⟩
      obtain ⟨d, d1, d2, k⟩ := q
      rw [ed d1 d2] at k
      exact n m k
    · refine Or.inr ⟨m, l, e.trans z, ⟨j * 10 + i, by omega, by omega, k⟩, fun k9 p => ?_⟩
      obtain ⟨d, d1, d2, k2⟩ := p
      rw [ed d1 d2] at k2
      exact q k9 k2
/-- the four cells beside one -/
theorem nb_four {F : Nat → Prop} {s i j : Nat} {x1 x2 y1 y2 r1 r2 r3 r4 : Int32} (hi : i < 10) (hj : j < 10) (h1 : x1.toInt = (i : Int) - 1) (h2 : x2.toInt = (i : Int) + 1) (h3 : y1.toInt = (j : Int) - 1) (h4 : y2.toInt = (j : Int) + 1)
    (a1 : lsQ (fun m => ∃ d : Nat, ((d % 10 : Nat) : Int) = x1.toInt ∧ ((d / 10 : Nat) : Int) = (nI j).toInt ∧ wlk F s m d) 99 r1)
    (a2 : lsQ (fun m => ∃ d : Nat, ((d % 10 : Nat) : Int) = x2.toInt ∧ ((d / 10 : Nat) : Int) = (nI j).toInt ∧ wlk F s m d) 99 r2)
    (a3 : lsQ (fun m => ∃ d : Nat, ((d % 10 : Nat) : Int) = (nI i).toInt ∧ ((d / 10 : Nat) : Int) = y1.toInt ∧ wlk F s m d) 99 r3)
    (a4 : lsQ (fun m => ∃ d : Nat, ((d % 10 : Nat) : Int) = (nI i).toInt ∧ ((d / 10 : Nat) : Int) = y2.toInt ∧ wlk F s m d) 99 r4) :
    lsQ (fun m => ∃ d, aj (j * 10 + i) d ∧ wlk F s m d) 99 (nrI (nrI r1 r2) (nrI r3 r4)) := by
  have zi := in_z (x := nI i) rfl (by omega)
  have zj := in_z (x := nI j) rfl (by omega)
  refine lsQ_iff (fun m => ⟨fun q => ?_, fun q => ?_⟩) (lsQ_nr (by decide) (lsQ_nr (by decide) a1 a2) (lsQ_nr (by decide) a3 a4))
  · rcases q with (⟨d, d1, d2, k⟩ | ⟨d, d1, d2, k⟩) | (⟨d, d1, d2, k⟩ | ⟨d, d1, d2, k⟩) <;> exact ⟨d, by unfold aj; omega, k⟩
  · obtain ⟨d, a, k⟩ := q
    unfold aj at a
    rcases a with ⟨e, a | a⟩ | ⟨e, a | a⟩
    · exact Or.inl (Or.inr ⟨d, by omega, by omega, k⟩)
    · exact Or.inl (Or.inl ⟨d, by omega, by omega, k⟩)
    · exact Or.inr (Or.inr ⟨d, by omega, by omega, k⟩)
    · exact Or.inr (Or.inl ⟨d, by omega, by omega, k⟩)
end ST17
