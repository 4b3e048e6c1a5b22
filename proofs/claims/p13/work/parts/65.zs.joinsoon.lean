section ST25
theorem lw_soon {bc sn : Nat} {B5 t3 : Nat → Int32} {cw mn : Nat → Nat} {w h : Nat} {f1 f5 : Nat → Int32} {sp wh : Nat → Nat} {r rm : Int32} (hbc : bc ≤ 10) (hcw : ∀ b, b < bc → cw b ≤ 99) (hmn : ∀ s, s < sn → 1 ≤ mn s) (a : ∃ c9, cbP c9 bc (fun j => B5 j = 1 ∧ 0 < cw j) ∧ (∀ b s, b < bc → B5 b = 1 → s < sn → lsD (fun m => wlo (fm w h f1 f5) (sp s) m (wh b)) (ddC t3 b s) ∧ t3 (b * 4 + s) = dv (ddC t3 b s)) ∧ ((r = (-1) ∧ stkP bc sn (fun j => B5 j = 1 ∧ 0 < cw j) (ddC t3)) ∨ (¬ stkP bc sn (fun j => B5 j = 1 ∧ 0 < cw j) (ddC t3) ∧ ∃ T, r = nI T ∧ soC bc sn (fun j => B5 j = 1 ∧ 0 < cw j) cw mn (ddC t3) T))) (d : ((rm = (-1) ∧ stkP bc sn (fun j => B5 j = 1 ∧ 0 < cw j) (ddC t3)) ∨ (¬ stkP bc sn (fun j => B5 j = 1 ∧ 0 < cw j) (ddC t3) ∧ ∃ R, rm = nI R ∧ soM bc sn (fun j => B5 j = 1) cw mn (ddC t3) R))) : r = rm := by
  obtain ⟨c9, hcb, hDF, ha⟩ := a
  have hcp : ∀ b, (fun j => B5 j = 1 ∧ 0 < cw j) b ↔ ((fun j => B5 j = 1) b ∧ 0 < cw b) := fun b => Iff.rfl
  have hok : ∀ b s, b < bc → (fun j => B5 j = 1 ∧ 0 < cw j) b → s < sn → okD (ddC t3 b s) := fun b s q1 q2 q3 => lsD_ok (hDF b s q1 q2.1 q3).1
  rcases ha with ⟨a1, a2⟩ | ⟨a1, T, a2, a3⟩ <;> rcases d with ⟨d1, d2⟩ | ⟨d1, R, d2, d3⟩
  · exact a1.trans d1.symm
  · exact absurd a2 d1
  · exact absurd d2 a1
  · rw [a2, d2, soon_two (st := fun j => B5 j = 1) hbc hcb.2 hcp hcw hmn a1 hok a3 d3]
theorem lw_proof {bc sn : Nat} {B5 t3 : Nat → Int32} {cw mn : Nat → Nat} {w h : Nat} {f1 f5 : Nat → Int32} {sp wh : Nat → Nat} {r rm : Int32} (hbc : bc ≤ 10) (hcw : ∀ b, b < bc → cw b ≤ 99) (hmn : ∀ s, s < sn → 1 ≤ mn s) (a : ∃ c9, cbP c9 bc (fun j => B5 j = 1 ∧ 0 < cw j) ∧ (∀ b s, b < bc → B5 b = 1 → s < sn → lsD (fun m => wlo (fm w h f1 f5) (sp s) m (wh b)) (ddC t3 b s) ∧ t3 (b * 4 + s) = dv (ddC t3 b s)) ∧ ((r = (-1) ∧ stkP bc sn (fun j => B5 j = 1 ∧ 0 < cw j) (ddC t3)) ∨ (¬ stkP bc sn (fun j => B5 j = 1 ∧ 0 < cw j) (ddC t3) ∧ ∃ T, soC bc sn (fun j => B5 j = 1 ∧ 0 < cw j) cw mn (ddC t3) T ∧ ((T = 0 ∧ r = (-1)) ∨ (1 ≤ T ∧ ltP (subP bc (fun j => B5 j = 1 ∧ 0 < cw j)) bc cw (fun g => letG bc sn mn (ddC t3) g (T - 1)) r))))) (d : ((rm = (-1) ∧ stkP bc sn (fun j => B5 j = 1 ∧ 0 < cw j) (ddC t3)) ∨ (¬ stkP bc sn (fun j => B5 j = 1 ∧ 0 < cw j) (ddC t3) ∧ ∃ R, soM bc sn (fun j => B5 j = 1) cw mn (ddC t3) R ∧ ((R = 0 ∧ rm = (-1)) ∨ (1 ≤ R ∧ ltP (setP bc (fun j => B5 j = 1)) bc cw (fun g => letG bc sn mn (ddC t3) g (R - 1)) rm))))) : r = rm := by
  obtain ⟨c9, hcb, hDF, ha⟩ := a
  have hcp : ∀ b, (fun j => B5 j = 1 ∧ 0 < cw j) b ↔ ((fun j => B5 j = 1) b ∧ 0 < cw b) := fun b => Iff.rfl
  have hok : ∀ b s, b < bc → (fun j => B5 j = 1 ∧ 0 < cw j) b → s < sn → okD (ddC t3 b s) := fun b s q1 q2 q3 => lsD_ok (hDF b s q1 q2.1 q3).1
  rcases ha with ⟨a1, a2⟩ | ⟨a1, T, a2, a3⟩ <;> rcases d with ⟨d1, d2⟩ | ⟨d1, R, d2, d3⟩
  · exact a1.trans d1.symm
  · exact absurd a2 d1
  · exact absurd d2 a1
  · have e := soon_two (st := fun j => B5 j = 1) hbc hcb.2 hcp hcw hmn a1 hok a2 d2
    subst e
    rcases a3 with ⟨z, a3⟩ | ⟨z, a3⟩ <;> rcases d3 with ⟨z', d3⟩ | ⟨z', d3⟩
    · exact a3.trans d3.symm
    · omega
    · omega
    · exact late_two (st := fun j => B5 j = 1) hbc hcb.2 hcp rfl a3 d3
theorem cwU_b {B4 G4 : Nat → Int32} {bc : Nat} {v : Int32} (h : ∀ b, b < bc → B4 b = nI (cwU B4 b) ∧ cwU B4 b ≤ 99) (e : G4 = upd B4 bc v) (h1 : ¬ v < 0) (h2 : ¬ 99 < v) : ∀ b, b < bc + 1 → G4 b = nI (cwU G4 b) ∧ cwU G4 b ≤ 99 := by
  intro b hb
  by_cases r : b = bc
  · have z0 : (0 : Int32).toInt = 0 := by decide
    have z9 : (99 : Int32).toInt = 99 := by decide
    have a1 := z_nlt rfl z0 h1
    have a2 := z_nlt z9 rfl h2
    have eb : G4 b = v := by rw [e, r, pk_us]
    have ev : v = nI (uN v) := by
      apply Int32.toInt_inj.mp
      unfold uN
      rw [nI_toInt (by omega)]
      omega
    unfold cwU
    rw [eb]
    refine ⟨ev, ?_⟩
    unfold uN
    omega
  · have eb : G4 b = B4 b := by rw [e, pk_un r]
    unfold cwU
    rw [eb]
    exact h b (by omega)
end ST25
