section ST21
theorem lw_ww {bc bcm w wm h hm : Nat} {B1 B2 B5 B6 B7 f3 f4 fs fw : Nat → Int32} {wt wh : Nat → Nat} (e1 : bcm = bc) (e2 : fs = B5) (e3 : wm = w) (e4 : hm = h) (H : CI bc w h B1 B2 B5 B6 B7 f3 f4 wt wh) (hr : ∀ b, b < bc → B5 b = 1 → fw b = nI (wh b)) : ∀ b, b < bcm → fs b = 1 → fw b = nI (wh b) ∧ wh b % 10 < wm ∧ wh b / 10 < hm := by
  subst e1; subst e2; subst e3; subst e4
  intro b hb s
  have q := CI_where H hb s
  exact ⟨hr b hb s, q.1, q.2.1⟩
end ST21
