section CNT
/-- how many of the first n places are 0 -/
def nz (g : Nat → Int32) : Nat → Nat
  | 0 => 0
  | n + 1 => nz g n + (if g n = 0 then 1 else 0)
theorem nz_le {g g' : Nat → Int32} (h : ∀ j, g' j = 0 → g j = 0) : ∀ n, nz g' n ≤ nz g n
  | 0 => Nat.le_refl _
  | n + 1 => by
    have ih := nz_le h n
    show nz g' n + _ ≤ nz g n + _
    by_cases q : g' n = 0
    · rw [if_pos q, if_pos (h n q)]; omega
    · rw [if_neg q]; omega
theorem nz_lt {g g' : Nat → Int32} (h : ∀ j, g' j = 0 → g j = 0) {k : Nat} (h1 : g k = 0) (h2 : ¬ g' k = 0) : ∀ n, k < n → nz g' n < nz g n
  | 0, hk => absurd hk (Nat.not_lt_zero _)
  | n + 1, hk => by
    show nz g' n + _ < nz g n + _
    by_cases q : k = n
    · subst q
      have := nz_le h k
      rw [if_neg h2, if_pos h1]; omega
    · have ih := nz_lt h h1 h2 n (by omega)
      by_cases r : g' n = 0
      · rw [if_pos r, if_pos (h n r)]; omega
      · rw [if_neg r]; omega
/-- what the loop that marks tells of 'more' -/
def moF (g b : Nat → Int32) (i : Nat) (mo : Int32) : Prop := (mo = 0 ∧ ∀ j, j < i → b j = 0) ∨ (mo = 1 ∧ ∃ j, j < i ∧ ¬ b j = 0 ∧ g j = 0)
def moN (mo : Int32) : Nat := if mo = 0 then 0 else 1
theorem mo_dec {g g' b : Nat → Int32} {mo mo' : Int32} {n : Nat} (hmo : ¬ mo = 0) (hm : moF g b 100 mo') (h1 : ∀ j, j < 100 → ¬ b j = 0 → ¬ g' j = 0) (h2 : ∀ j, g' j = 0 → g j = 0) (hn : 2 * nz g 100 + moN mo < n + 1) : 2 * nz g' 100 + moN mo' < n := by
  have e : moN mo = 1 := if_neg hmo
  rw [e] at hn
  rcases hm with ⟨rfl, -⟩ | ⟨rfl, j, hj, hb, hg⟩
  · have := nz_le h2 100
    have e2 : moN 0 = 0 := rfl
    rw [e2]; omega
  · have := nz_lt h2 hg (h1 j hj hb) 100 hj
    have e2 : moN 1 = 1 := rfl
    rw [e2]; omega
theorem mo_0 {g b : Nat → Int32} : moF g b 0 0 := Or.inl ⟨rfl, fun j hj => absurd hj (Nat.not_lt_zero j)⟩
/-- one place more: its mark is 0 -/
theorem mo_s0 {g b b' : Nat → Int32} {i : Nat} {mo : Int32} (h : moF g b i mo) (e : b' = upd b i (vp_nar .boolean 0)) : moF g b' (i + 1) mo := by
  subst e
  rcases h with ⟨a, k⟩ | ⟨a, j, hj, hb, hg⟩
  · refine Or.inl ⟨a, fun j hj => ?_⟩
    by_cases q : j = i
    · subst q; rw [pk_us]; rfl
    · rw [pk_un q]; exact k j (by omega)
  · exact Or.inr ⟨a, j, by omega, by rw [pk_un (by omega)]; exact hb, hg⟩
/-- one place more: its mark is 1, the place wasn't cracked -/
theorem mo_s1 {g b b' : Nat → Int32} {i : Nat} (hg : g i = 0) (e : b' = upd b i (vp_nar .boolean 1)) : moF g b' (i + 1) 1 := by
  subst e
  exact Or.inr ⟨rfl, i, by omega, by rw [pk_us]; decide, hg⟩
theorem ms_1 {b g g' : Nat → Int32} {i : Nat} (h : ∀ j, j < i → ¬ b j = 0 → ¬ g j = 0) (e : g' = upd g i (vp_nar .boolean 1)) : ∀ j, j < i + 1 → ¬ b j = 0 → ¬ g' j = 0 := by
  intro j hj hb
  subst e
  by_cases q : j = i
  · subst q; rw [pk_us]; decide
  · rw [pk_un q]; exact h j (by omega) hb
theorem ms_0 {b g : Nat → Int32} {i : Nat} (h : ∀ j, j < i → ¬ b j = 0 → ¬ g j = 0) (e : b i = 0) : ∀ j, j < i + 1 → ¬ b j = 0 → ¬ g j = 0 := by
  intro j hj hb
  by_cases q : j = i
  · subst q; exact absurd e hb
  · exact h j (by omega) hb
theorem mm_1 {g0 g g' : Nat → Int32} {i : Nat} (h : ∀ j, g j = 0 → g0 j = 0) (e : g' = upd g i (vp_nar .boolean 1)) : ∀ j, g' j = 0 → g0 j = 0 := by
  intro j hj
  subst e
  by_cases q : j = i
  · subst q; rw [pk_us] at hj; exact absurd hj (by decide)
  · rw [pk_un q] at hj; exact h j hj
end CNT
