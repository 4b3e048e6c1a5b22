section ST21
theorem lw_ww {bc bcm w wm h hm : Nat} {B1 B2 B5 B6 B7 f3 f4 fs fw : Nat → Int32} {wt wh : Nat → Nat} (e1 : bcm = bc) (e2 : fs = B5) (e3 : wm = w) (e4 : hm = h) (H : CI bc w h B1 B2 B5 B6 B7 f3 f4 wt wh) (hr : ∀ b, b < bc → B5 b = 1 → fw b = nI (wh b)) : ∀ b, b < bcm → fs b = 1 → fw b = nI (wh b) ∧ wh b % 10 < wm ∧ wh b / 10 < hm := by
  subst e1; subst e2; subst e3; subst e4
  intro b hb s
  have q := CI_where H hb s
  exact ⟨hr b hb s, q.1, q.2.1⟩
theorem lw_look {bc w h sn : Nat} {B1 B5 B6 B7 f1 f5 : Nat → Int32} {wh ru sp : Nat → Nat} {fo og : Nat → Int64} {x y r rm u_thrown : Int32} (hbc : bc ≤ 10) (H : CB bc w h B1 B5 B6 B7 wh) (a : (r = 1 ∧ (∀ b, b < bc → ¬ x = nI b) ∧ og = fo) ∨ (r = 2 ∧ (∃ b, b < bc ∧ x = nI b) ∧ zl y ∧ og = fo) ∨ (r = 0 ∧ ∃ b v, b < bc ∧ x = nI b ∧ lkC B5 B6 B7 (fun b => crkP w h f5 (ru 4) (wh b)) (fun b m => ∃ q, q < sn ∧ wlo (fm w h f1 f5) (sp q) m (wh b)) b y v ∧ og = vp_updL fo 0 v.toInt64)) (d : (u_thrown = 1 ∧ (∀ b, b < bc → ¬ x = nI b)) ∨ (u_thrown = 2 ∧ (∃ b, b < bc ∧ x = nI b) ∧ zl y) ∨ (u_thrown = 0 ∧ ∃ b, b < bc ∧ x = nI b ∧ lkM B5 wh (fun b => crkP w h f5 (ru 4) (wh b)) (fun b m => ∃ q, q < sn ∧ wlo (fm w h f1 f5) (sp q) m (wh b)) b y rm)) : r = u_thrown ∧ (r = 0 → og 0 = rm.toInt64) := by
  rcases a with ⟨a1, a2, a3⟩ | ⟨a1, ⟨b, hb, eb⟩, a3, a4⟩ | ⟨a1, b, v, hb, eb, a3, a4⟩ <;> rcases d with ⟨d1, d2⟩ | ⟨d1, ⟨b', hb', eb'⟩, d3⟩ | ⟨d1, b', hb', eb', d3⟩
  · exact ⟨a1.trans d1.symm, fun q => absurd (a1.symm.trans q) (by decide)⟩
  · exact absurd eb' (a2 b' hb')
  · exact absurd eb' (a2 b' hb')
  · exact absurd eb (d2 b hb)
  · exact ⟨a1.trans d1.symm, fun q => absurd (a1.symm.trans q) (by decide)⟩
  · exact (zl_M a3 d3).elim
  · exact absurd eb (d2 b hb)
  · exact (zl_C d3 a3).elim
  · refine ⟨a1.trans d1.symm, fun _ => ?_⟩
    obtain rfl : b = b' := (nI_eq (by omega) (by omega)).mp (eb.symm.trans eb')
    have hv : v = rm := lk_two H hb a3 d3
    rw [a4, hv]
    rfl
end ST21
