section ST26
theorem lw_cbB {bc nb : Nat} {B1 B2 B3 B4 B5 B6 B7 G1 G2 G3 G4 G5 G6 G7 : Nat → Int32} {w1 fi cr1 r : Int32} (h : ∀ b, b < bc → B4 b = nI (cwU B4 b) ∧ cwU B4 b ≤ 99) (a : (((w1 < 1 ∨ 50 < w1 ∨ cr1 < 0 ∨ 99 < cr1) ∨ bc = 10) ∧ r = (-1) ∧ nb = bc ∧ G1 = B1 ∧ G2 = B2 ∧ G3 = B3 ∧ G4 = B4 ∧ G5 = B5 ∧ G6 = B6 ∧ G7 = B7) ∨ (¬ (w1 < 1 ∨ 50 < w1 ∨ cr1 < 0 ∨ 99 < cr1) ∧ bc < 10 ∧ nb = bc + 1 ∧ r = nI bc ∧ G1 = upd B1 bc (nI bc) ∧ G2 = upd B2 bc w1 ∧ G3 = upd B3 bc fi ∧ G4 = upd B4 bc cr1 ∧ G5 = upd B5 bc 0 ∧ G6 = upd B6 bc (-1) ∧ G7 = upd B7 bc (-1))) : ∀ b, b < nb → G4 b = nI (cwU G4 b) ∧ cwU G4 b ≤ 99 := by
  rcases a with ⟨_, _, e, _, _, _, e4, _⟩ | ⟨n, _, e, _, _, _, _, e4, _⟩
  · rw [e, e4]; exact h
  · rw [e]; exact cwU_b h e4 (fun q => n (Or.inr (Or.inr (Or.inl q)))) (fun q => n (Or.inr (Or.inr (Or.inr q))))
theorem lw_dd {bc bcm w wm h hm sn sm : Nat} {B5 fs f1 fl f5 fc : Nat → Int32} {sp wh : Nat → Nat} {dd : Nat → Nat → Nat} {Q : Nat → Nat → Prop} (e1 : bcm = bc) (e2 : fs = B5) (e3 : wm = w) (e4 : hm = h) (e5 : fl = f1) (e6 : fc = f5) (e7 : sm = sn) (a : ∀ b s, b < bc → B5 b = 1 → s < sn → lsD (fun m => wlo (fm w h f1 f5) (sp s) m (wh b)) (dd b s) ∧ Q b s) : ∀ b s, b < bcm → fs b = 1 → s < sm → lsD (fun m => wlo (fm wm hm fl fc) (sp s) m (wh b)) (dd b s) := by
  subst e1; subst e2; subst e3; subst e4; subst e5; subst e6; subst e7
  exact fun b s q1 q2 q3 => (a b s q1 q2 q3).1
theorem mn_C {P : PSt} {c1 c2 c3 c4 : Nat → Int32} {sc : Int32} (K : Kc P c1 c2 c3 c4 sc) (B : SB P) : ∀ s, s < P.2.1 → c4 s = nI (P.2.2.2.2.1 s) ∧ P.2.2.2.2.1 s ≤ 9 := fun s hs => ⟨(K.2.2.1 s hs).2.2, (B s hs).2.2.2⟩
theorem mn_M {P : PSt} {sn : Nat} {fr fs : Nat → Int32} (K : Km P sn fr fs) (B : SB P) : ∀ s, s < sn → fs (2 * s + 1) = nI (P.2.2.2.2.1 s) ∧ P.2.2.2.2.1 s ≤ 9 := by
  intro s hs
  rw [K.1] at hs
  exact ⟨(K.2.2.1 s hs).2, (B s hs).2.2.2⟩
end ST26
