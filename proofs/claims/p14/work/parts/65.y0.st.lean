section ST11
def zo (z : Int32) : Prop := ¬ z = 0 ∧ ¬ z = 1 ∧ ¬ z = 2 ∧ ¬ z = 3 ∧ ¬ z = 4 ∧ ¬ z = 5
/-- what the class tells of a cell -/
def cvC (f1 f2 f3 f4 f5 : Nat → Int32) (b0 : Int32) (c : Nat) (z r : Int32) : Prop := (z = 0 ∧ r = f1 c) ∨ (z = 1 ∧ r = f2 c) ∨ (z = 2 ∧ r = if f5 c = 0 then 0 else 1) ∨ (z = 3 ∧ r = f3 c) ∨ (z = 4 ∧ r = brI f1 b0 c) ∨ (z = 5 ∧ r = f4 c)
/-- what the reference tells of a cell -/
def cvM (bc : Nat) (lo hi ck st : Nat → Int32) (wt wh : Nat → Nat) (b0 : Int32) (c : Nat) (z r : Int32) : Prop := (z = 0 ∧ r = lo c) ∨ (z = 1 ∧ r = hi c) ∨ (z = 2 ∧ r = if ck c = 0 then 0 else 1) ∨ (z = 3 ∧ r = nI (strN st wt wh c bc)) ∨ (z = 4 ∧ r = brI lo b0 c) ∨ (z = 5 ∧ ((r = (-1) ∧ ∀ b, b < bc → st b = 1 → ¬ wh b = c) ∨ ∃ b, b < bc ∧ st b = 1 ∧ wh b = c ∧ r = nI b))
theorem cv_two {bc w h c : Nat} {B1 B2 B5 B6 B7 f1 f2 f3 f4 f5 : Nat → Int32} {wt wh : Nat → Nat} {b0 z r rm : Int32} (hbc : bc ≤ 10) (H : CI bc w h B1 B2 B5 B6 B7 f3 f4 wt wh) (h1 : c % 10 < w) (h2 : c / 10 < h) (a : cvC f1 f2 f3 f4 f5 b0 c z r) (d : cvM bc f1 f2 f5 B5 wt wh b0 c z rm) : r = rm := by
  have ne : ∀ {p q : Int32}, z = p → z = q → ¬ p = q → False := fun e1 e2 n => n (e1.symm.trans e2)
  rcases a with ⟨e, a⟩ | ⟨e, a⟩ | ⟨e, a⟩ | ⟨e, a⟩ | ⟨e, a⟩ | ⟨e, a⟩ <;> rcases d with ⟨e', d⟩ | ⟨e', d⟩ | ⟨e', d⟩ | ⟨e', d⟩ | ⟨e', d⟩ | ⟨e', d⟩ <;> first | (exact (ne e e' (by decide)).elim) | (exact a.trans d.symm) | (rw [a, d, H.2.2.2.1 c h1 h2]) | skip
  rw [a]
  rcases H.2.2.1 c h1 h2 with ⟨b, hb, sb, eb, fb⟩ | ⟨fb, q⟩
  · rcases d with ⟨_, dn⟩ | ⟨b', hb', sb', eb', dr⟩
    · exact absurd eb (dn b hb sb)
    · rw [fb, dr, H.2.1 b b' hb hb' sb sb' (eb.trans eb'.symm)]
  · rcases d with ⟨dr, _⟩ | ⟨b', hb', sb', eb', dr⟩
    · rw [fb, dr]
    · exact absurd eb' (q b' hb' sb')
theorem zo_M {bc c : Nat} {lo hi ck st : Nat → Int32} {wt wh : Nat → Nat} {b0 z r : Int32} (n : zo z) (d : cvM bc lo hi ck st wt wh b0 c z r) : False := by
  rcases d with ⟨e, _⟩ | ⟨e, _⟩ | ⟨e, _⟩ | ⟨e, _⟩ | ⟨e, _⟩ | ⟨e, _⟩
  · exact n.1 e
  · exact n.2.1 e
  · exact n.2.2.1 e
  · exact n.2.2.2.1 e
  · exact n.2.2.2.2.1 e
  · exact n.2.2.2.2.2 e
theorem zo_C {c : Nat} {f1 f2 f3 f4 f5 : Nat → Int32} {b0 z r : Int32} (n : zo z) (d : cvC f1 f2 f3 f4 f5 b0 c z r) : False := by
  rcases d with ⟨e, _⟩ | ⟨e, _⟩ | ⟨e, _⟩ | ⟨e, _⟩ | ⟨e, _⟩ | ⟨e, _⟩
  · exact n.1 e
  · exact n.2.1 e
  · exact n.2.2.1 e
  · exact n.2.2.2.1 e
  · exact n.2.2.2.2.1 e
  · exact n.2.2.2.2.2 e
end ST11
