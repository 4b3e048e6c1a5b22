section WAY
def qOK (f : Nat → Int32) (n : Nat) : Prop := ∀ j, j < n → ∃ q : Nat, q < 100 ∧ f j = nI q
theorem qOK_0 {f : Nat → Int32} : qOK f 0 := fun j h => absurd h (Nat.not_lt_zero j)
theorem qOK_add {f g : Nat → Int32} {n q : Nat} (h : qOK f n) (e : g = upd f n (nI q)) (hq : q < 100) : qOK g (n + 1) := by
  intro j hj
  subst e
  by_cases r : j = n
  · subst r; exact ⟨q, hq, pk_us⟩
  · rw [pk_un r]; exact h j (by omega)
theorem shl1 : ∀ b : Nat, b ≤ 10 → (1 : Int32) <<< (nI b &&& 31) = nI (2 ^ b) := by
  intro b h
  rcases (show b = 0 ∨ b = 1 ∨ b = 2 ∨ b = 3 ∨ b = 4 ∨ b = 5 ∨ b = 6 ∨ b = 7 ∨ b = 8 ∨ b = 9 ∨ b = 10 by omega) with rfl | rfl | rfl | rfl | rfl | rfl | rfl | rfl | rfl | rfl | rfl <;> decide
theorem p2_le : ∀ b : Nat, b ≤ 10 → 1 ≤ 2 ^ b ∧ 2 ^ b ≤ 1024 := by
  intro b h
  rcases (show b = 0 ∨ b = 1 ∨ b = 2 ∨ b = 3 ∨ b = 4 ∨ b = 5 ∨ b = 6 ∨ b = 7 ∨ b = 8 ∨ b = 9 ∨ b = 10 by omega) with rfl | rfl | rfl | rfl | rfl | rfl | rfl | rfl | rfl | rfl | rfl <;> decide
theorem zero_or_succ (t : Nat) : t = 0 ∨ ∃ u, t = u + 1 := by
  cases t with
  | zero => exact Or.inl rfl
  | succ u => exact Or.inr ⟨u, rfl⟩
end WAY
