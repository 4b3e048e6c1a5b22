def wF : Nat → Int32 := fun j => ([98, 101, 97, 114, 32, 109, 101, 108, 116, 32, 97, 112, 97, 114, 116, 32, 110, 101, 97, 114, 32, 104, 101, 97, 108, 32, 102, 101, 101, 32, 115, 116, 97, 105, 114, 32] : List Int32).getD j 0
section MDL
theorem nI_sub1 (u : Nat) : nI (u + 1) - 1 = nI u := by
  have h : nI (u + 1) = nI u + 1 := (nI_add u 1).symm
  rw [h, Int32.sub_eq_add_neg, Int32.add_assoc]
  simp
theorem nI_subN {a b : Nat} (h : a ≤ b) : nI b - nI a = nI (b - a) := by
  have h1 : nI b = nI (b - a) + nI a := by
    rw [nI_add]
    congr 1
    omega
  rw [h1, Int32.sub_eq_add_neg, Int32.add_assoc, Int32.add_right_neg, Int32.add_zero]
/-- numbers of a row below a bound -/
def rOK (b : Nat) (f : Nat → Int32) (n : Nat) : Prop := ∀ j, j < n → ∃ q : Nat, q < b ∧ f j = nI q
theorem rOK_0 {b : Nat} {f : Nat → Int32} : rOK b f 0 := fun j h => absurd h (Nat.not_lt_zero j)
theorem rOK_add {b : Nat} {f g : Nat → Int32} {n q : Nat} (h : rOK b f n) (e : g = upd f n (nI q)) (hq : q < b) : rOK b g (n + 1) := by
  intro j hj
  subst e
  by_cases r : j = n
  · subst r; exact ⟨q, hq, pk_us⟩
  · rw [pk_un r]; exact h j (by omega)
theorem rOK_upd {b : Nat} {f g : Nat → Int32} {n i q : Nat} (h : rOK b f n) (e : g = upd f i (nI q)) (hq : q < b) : rOK b g n := by
  intro j hj
  subst e
  by_cases r : j = i
  · subst r; exact ⟨q, hq, pk_us⟩
  · rw [pk_un r]; exact h j hj
theorem rOK_cpy {b : Nat} {f g : Nat → Int32} {n i k : Nat} {v : Int32} (h : rOK b f n) (hv : v = f k) (e : g = upd f i v) (hk : k < n) : rOK b g n := by
  obtain ⟨q, hq, eq⟩ := h k hk
  rw [hv, eq] at e
  exact rOK_upd h e hq
/-- the sum of a row -/
def sm (f : Nat → Int32) : Nat → Nat
  | 0 => 0
  | n + 1 => sm f n + (f n).toNatClampNeg
theorem sm_out {f : Nat → Int32} {i : Nat} {v : Int32} : ∀ n, n ≤ i → sm (upd f i v) n = sm f n := by
  intro n
  induction n with
  | zero => intro _; rfl
  | succ n ih =>
    intro h
    show sm (upd f i v) n + _ = sm f n + _
    rw [ih (by omega), pk_un (by omega : ¬ n = i)]
theorem sm_lt {f : Nat → Int32} {i : Nat} {v : Int32} (h : v.toNatClampNeg < (f i).toNatClampNeg) : ∀ n, i < n → sm (upd f i v) n < sm f n := by
  intro n
  induction n with
  | zero => intro h; exact absurd h (Nat.not_lt_zero _)
  | succ n ih =>
    intro hi
    show sm (upd f i v) n + _ < sm f n + _
    by_cases r : n = i
    · subst r
      rw [sm_out n (Nat.le_refl _), pk_us]
      omega
    · rw [pk_un r]
      have := ih (by omega)
      omega
/-- what the rounds of walks keep -/
def wk (g0 g : Nat → Int32) (mo : Int32) : Prop := (mo = 0 ∧ sm g 400 ≤ sm g0 400) ∨ (mo = 1 ∧ sm g 400 < sm g0 400)
theorem wk_0 {g : Nat → Int32} : wk g g 0 := Or.inl ⟨rfl, Nat.le_refl _⟩
theorem wk_s {g0 g g' : Nat → Int32} {mo : Int32} {i a b : Nat} (h : wk g0 g mo) (e : g' = upd g i (nI a)) (hb : g i = nI b) (hab : a < b) (hb2 : b < 2 ^ 31) (hi : i < 400) : wk g0 g' 1 := by
  subst e
  have h1 : sm (upd g i (nI a)) 400 < sm g 400 := sm_lt (by rw [hb, nI_clamp (by omega), nI_clamp (by omega)]; exact hab) 400 hi
  rcases h with ⟨_, h⟩ | ⟨_, h⟩
  · exact Or.inr ⟨rfl, by omega⟩
  · exact Or.inr ⟨rfl, by omega⟩
theorem wk_dec {g0 g : Nat → Int32} {mo mo' : Int32} {n : Nat} (hmo : ¬ mo = 0) (h : wk g0 g mo') (hn : 2 * sm g0 400 + moN mo < n + 1) : 2 * sm g 400 + moN mo' < n := by
  have h1 : moN mo = 1 := if_neg hmo
  rcases h with ⟨rfl, h⟩ | ⟨rfl, h⟩
  · have h2 : moN 0 = 0 := rfl
    omega
  · have h2 : moN 1 = 1 := rfl
    omega
theorem dig_nat {v : Int32} (h1 : ¬ v < 48) (h2 : ¬ 57 < v) : ∃ d : Nat, 48 ≤ d ∧ d ≤ 57 ∧ v = nI d := by
  have a1 := Int32.le_iff_toInt_le.mp (Int32.not_lt.mp h1)
  have a2 := Int32.le_iff_toInt_le.mp (Int32.not_lt.mp h2)
  have b1 : (48 : Int32).toInt = 48 := by decide
  have b2 : (57 : Int32).toInt = 57 := by decide
  refine ⟨v.toInt.toNat, by omega, by omega, ?_⟩
  apply Int32.toInt_inj.mp
  rw [nI_toInt (by omega)]
  omega
def wst (k : Nat) : Nat := ([0, 5, 10, 16, 21, 26, 30, 36] : List Nat).getD k 0
def wln (k : Nat) : Nat := ([4, 4, 5, 4, 4, 3, 5] : List Nat).getD k 0
theorem wst_s : ∀ k, k < 7 → wst k + (wln k + 1) = wst (k + 1) := by decide +kernel
theorem wst_le : ∀ k, k ≤ 7 → wst k ≤ 36 := by
  intro k h
  exact (by decide +kernel : ∀ k, k < 8 → wst k ≤ 36) k (by omega)
theorem wst_in : ∀ k, k < 7 → wst k + wln k < 36 := by decide +kernel
theorem wln_le : ∀ k, k < 7 → wln k ≤ 5 := by decide +kernel
theorem wst_7 {k : Nat} (h : k ≤ 7) (h1 : wst k < 36) : k < 7 := by
  rcases Nat.lt_or_ge k 7 with h2 | h2
  · exact h2
  · have : k = 7 := by omega
    subst this
    exact absurd h1 (by decide)
theorem words_ne : ∀ k, k < 7 → ∀ n, n < 6 → n ≤ wln k → wF (wst k + n) = 32 → n = wln k := by decide +kernel
theorem words_eq : ∀ k, k < 7 → wF (wst k + wln k) = 32 := by decide +kernel
end MDL
