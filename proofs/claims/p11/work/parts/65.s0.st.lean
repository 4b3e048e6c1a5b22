section ST0
theorem z_add {a b : Int32} {A B : Int} (ha : a.toInt = A) (hb : b.toInt = B) (h1 : -2147483648 ≤ A + B) (h2 : A + B < 2147483648) : (a + b).toInt = A + B := by
  rw [Int32.toInt_add, ha, hb]
  exact Int.bmod_eq_of_le (by omega) (by omega)
theorem z_sub {a b : Int32} {A B : Int} (ha : a.toInt = A) (hb : b.toInt = B) (h1 : -2147483648 ≤ A - B) (h2 : A - B < 2147483648) : (a - b).toInt = A - B := by
  rw [Int32.toInt_sub, ha, hb]
  exact Int.bmod_eq_of_le (by omega) (by omega)
theorem z_lt {a b : Int32} {A B : Int} (ha : a.toInt = A) (hb : b.toInt = B) (h : a < b) : A < B := by
  rw [← ha, ← hb]; exact Int32.lt_iff_toInt_lt.mp h
theorem z_nlt {a b : Int32} {A B : Int} (ha : a.toInt = A) (hb : b.toInt = B) (h : ¬ a < b) : B ≤ A := by
  rw [← ha, ← hb]; exact Int32.le_iff_toInt_le.mp (Int32.not_lt.mp h)
/-- the place of a cell -/
def cl (x y : Int32) : Nat := y.toInt.toNat * 10 + x.toInt.toNat
theorem cl_nI {i j : Nat} (hi : i < 2 ^ 31) (hj : j < 2 ^ 31) : cl (nI i) (nI j) = j * 10 + i := by
  unfold cl
  rw [nI_toInt hi, nI_toInt hj]
  rfl
theorem out_z {x y : Int32} {w h : Nat} (hw : w ≤ 10) (hh : h ≤ 10) (o : x < 0 ∨ ¬ x < nI w ∨ y < 0 ∨ ¬ y < nI h) : x.toInt < 0 ∨ (w : Int) ≤ x.toInt ∨ y.toInt < 0 ∨ (h : Int) ≤ y.toInt := by
  have z0 : (0 : Int32).toInt = 0 := by decide
  rcases o with o | o | o | o
  · exact Or.inl (z_lt rfl z0 o)
  · exact Or.inr (Or.inl (z_nlt rfl (nI_toInt (by omega)) o))
  · exact Or.inr (Or.inr (Or.inl (z_lt rfl z0 o)))
  · exact Or.inr (Or.inr (Or.inr (z_nlt rfl (nI_toInt (by omega)) o)))
theorem in_z {x : Int32} {i : Nat} (e : x = nI i) (hi : i < 2 ^ 31) : (i : Int) = x.toInt := by
  rw [e, nI_toInt hi]
/-- what a cell bears -/
def brI (f1 : Nat → Int32) (b : Int32) (c : Nat) : Int32 := f1 c * f1 c * b / 100
def wbI (t : Int32) : Int32 := if 0 < (if t < 99 then t else 99) then (if t < 99 then t else 99) else 0
/-- shares of a weight, by nine places round its cell -/
def shm (n : Nat) : Nat := (if n % 3 = 1 then 2 else 1) * (if n / 3 = 1 then 2 else 1)
def plN (i j c : Nat) : Nat → Nat
  | 0 => 0
  | n + 1 => plN i j c n + (if c % 10 + 1 = i + n % 3 ∧ c / 10 + 1 = j + n / 3 then shm n else 0)
theorem plN_s {i j c n : Nat} : plN i j c (n + 1) = plN i j c n + (if c % 10 + 1 = i + n % 3 ∧ c / 10 + 1 = j + n / 3 then shm n else 0) := rfl
def shN (a c : Nat) : Nat := if a % 10 < c % 10 + 2 ∧ c % 10 < a % 10 + 2 ∧ a / 10 < c / 10 + 2 ∧ c / 10 < a / 10 + 2 then (if a % 10 = c % 10 then 2 else 1) * (if a / 10 = c / 10 then 2 else 1) else 0
theorem plN_9 {i j c : Nat} (hi : i < 10) : plN i j c 9 = shN (j * 10 + i) c := by
  have e1 : (j * 10 + i) % 10 = i := by omega
  have e2 : (j * 10 + i) / 10 = j := by omega
  unfold shN
  rw [e1, e2]
  simp only [plN, shm]
  clear e1 e2
  generalize c % 10 = p
  generalize c / 10 = q
  by_cases h : i < p + 2 ∧ p < i + 2 ∧ j < q + 2 ∧ q < j + 2
  · rw [if_pos h]
    rcases (show p + 1 = i ∨ p = i ∨ p = i + 1 by omega) with a | a | a <;> rcases (show q + 1 = j ∨ q = j ∨ q = j + 1 by omega) with b | b | b <;> subst a <;> subst b <;> simp <;> omega
  · rw [if_neg h]
    have k : ∀ n, n < 9 → ¬ (p + 1 = i + n % 3 ∧ q + 1 = j + n / 3) := fun n hn q => h (by omega)
    rw [if_neg (k 0 (by omega)), if_neg (k 1 (by omega)), if_neg (k 2 (by omega)), if_neg (k 3 (by omega)), if_neg (k 4 (by omega)), if_neg (k 5 (by omega)), if_neg (k 6 (by omega)), if_neg (k 7 (by omega)), if_neg (k 8 (by omega))]
theorem sh_val {dx dy : Int32} {t u : Nat} (hx : dx.toInt = (u : Int) - 1) (hy : dy.toInt = (t : Int) - 1) (hu : u < 3) (ht : t < 3) : (if dx = 0 then (2 : Int32) else 1) * (if dy = 0 then 2 else 1) = nI (shm (3 * t + u)) := by
  have z0 : (0 : Int32).toInt = 0 := by decide
  have ex : (dx = 0) ↔ u = 1 := ⟨fun h => by rw [h] at hx; omega, fun h => Int32.toInt_inj.mp (by omega)⟩
  have ey : (dy = 0) ↔ t = 1 := ⟨fun h => by rw [h] at hy; omega, fun h => Int32.toInt_inj.mp (by omega)⟩
  simp only [ex, ey]
  exact (by decide : ∀ t, t < 3 → ∀ u, u < 3 → (if u = 1 then (2 : Int32) else 1) * (if t = 1 then 2 else 1) = nI (shm (3 * t + u))) t ht u hu
section
variable {f g g' : Nat → Int32} {i j w h t u : Nat} {wt : Int32}
theorem ld_0 (hg : ∀ c, c % 10 < w → c / 10 < h → g c = f c + wt * nI (plN i j c (3 * t + u))) (hu : u < 3) (hn : ∀ c, c % 10 < w → c / 10 < h → c % 10 + 1 = i + u → c / 10 + 1 = j + t → False) : ∀ c, c % 10 < w → c / 10 < h → g c = f c + wt * nI (plN i j c (3 * t + (u + 1))) := by
  intro c h1 h2
  rw [hg c h1 h2, show 3 * t + (u + 1) = (3 * t + u) + 1 from rfl, plN_s]
  rw [if_neg (fun q => hn c h1 h2 (by omega) (by omega)), Nat.add_zero]
theorem ld_1 {c0 : Nat} {v : Int32} (hg : ∀ c, c % 10 < w → c / 10 < h → g c = f c + wt * nI (plN i j c (3 * t + u))) (hu : u < 3) (h1 : c0 % 10 < w) (h2 : c0 / 10 < h) (k1 : c0 % 10 + 1 = i + u) (k2 : c0 / 10 + 1 = j + t) (e : g' = upd g c0 v) (ev : v = g c0 + wt * nI (shm (3 * t + u))) : ∀ c, c % 10 < w → c / 10 < h → g' c = f c + wt * nI (plN i j c (3 * t + (u + 1))) := by
  intro c q1 q2
  subst e
  by_cases r : c = c0
  · subst r
    rw [pk_us, ev, hg c q1 q2, show 3 * t + (u + 1) = (3 * t + u) + 1 from rfl, plN_s]
    rw [if_pos (by omega), ← nI_add, Int32.mul_add, Int32.add_assoc]
  · rw [pk_un r, hg c q1 q2, show 3 * t + (u + 1) = (3 * t + u) + 1 from rfl, plN_s]
    rw [if_neg (fun q => r (by omega)), Nat.add_zero]
end
/-- nine places round a cell, and those near it -/
theorem ba_iff {f1 f3 : Nat → Int32} {i j w h : Nat} {wt b : Int32} (hi : i < 10) : (∀ c m, c % 10 < w → c / 10 < h → m < 9 → c % 10 + 1 = i + m % 3 → c / 10 + 1 = j + m / 3 → ¬ brI f1 b c < f3 c + wt * nI (shm m)) ↔ (∀ c, c % 10 < w → c / 10 < h → c % 10 < i + 2 → i < c % 10 + 2 → c / 10 < j + 2 → j < c / 10 + 2 → ¬ brI f1 b c < f3 c + wt * nI (shN (j * 10 + i) c)) := by
  have key : ∀ c m, m < 9 → c % 10 + 1 = i + m % 3 → c / 10 + 1 = j + m / 3 → shN (j * 10 + i) c = shm m := by
    intro c m hm h1 h2
    have e1 : (j * 10 + i) % 10 = i := by omega
    have e2 : (j * 10 + i) / 10 = j := by omega
    unfold shN shm
    rw [e1, e2, if_pos (by omega)]
    congr 1
    · by_cases q : i = c % 10
      · rw [if_pos q, if_pos (by omega)]
      · rw [if_neg q, if_neg (by omega)]
    · by_cases q : j = c / 10
      · rw [if_pos q, if_pos (by omega)]
      · rw [if_neg q, if_neg (by omega)]
  constructor
  · intro k c h1 h2 a1 a2 a3 a4
    have hm : (c / 10 + 1 - j) * 3 + (c % 10 + 1 - i) < 9 := by omega
    have m1 : c % 10 + 1 = i + ((c / 10 + 1 - j) * 3 + (c % 10 + 1 - i)) % 3 := by omega
    have m2 : c / 10 + 1 = j + ((c / 10 + 1 - j) * 3 + (c % 10 + 1 - i)) / 3 := by omega
    rw [key c _ hm m1 m2]
    exact k c _ h1 h2 hm m1 m2
  · intro k c m h1 h2 hm m1 m2
    rw [← key c m hm m1 m2]
    exact k c h1 h2 (by omega) (by omega) (by omega) (by omega)
/-- which cells break -/
def mkI (f1 f2 f3 f5 : Nat → Int32) (b : Int32) (c : Nat) : Int32 := if (brI f1 b c < f3 c ∨ f2 c = 0) ∧ f5 c = 0 then 1 else 0
theorem mk_1 {f1 f2 f3 f5 : Nat → Int32} {b : Int32} {c : Nat} (h : brI f1 b c < f3 c ∨ f2 c = 0) (h2 : f5 c = 0) : mkI f1 f2 f3 f5 b c = 1 := if_pos ⟨h, h2⟩
theorem mk_0 {f1 f2 f3 f5 : Nat → Int32} {b : Int32} {c : Nat} (h : ¬ ((brI f1 b c < f3 c ∨ f2 c = 0) ∧ f5 c = 0)) : mkI f1 f2 f3 f5 b c = 0 := if_neg h
theorem he_0 {f1 f5 g5 : Nat → Int32} {t1 : Int32} {i : Nat} (h : ∀ c, g5 c = if c < i ∧ t1 ≤ f1 c then 0 else f5 c) (hn : ¬ t1 ≤ f1 i) : ∀ c, g5 c = if c < i + 1 ∧ t1 ≤ f1 c then 0 else f5 c := by
  intro c
  rw [h c]
  by_cases r : c = i
  · subst r
    rw [if_neg (fun q => hn q.2), if_neg (fun q => hn q.2)]
  · by_cases q : c < i ∧ t1 ≤ f1 c
    · rw [if_pos q, if_pos ⟨by omega, q.2⟩]
    · rw [if_neg q, if_neg (fun q2 => q ⟨by omega, q2.2⟩)]
theorem he_1 {f1 f5 g5 g : Nat → Int32} {t1 : Int32} {i : Nat} (h : ∀ c, g5 c = if c < i ∧ t1 ≤ f1 c then 0 else f5 c) (hn : t1 ≤ f1 i) (e : g = upd g5 i (vp_nar .boolean 0)) : ∀ c, g c = if c < i + 1 ∧ t1 ≤ f1 c then 0 else f5 c := by
  intro c
  subst e
  by_cases r : c = i
  · subst r
    rw [pk_us, if_pos ⟨by omega, hn⟩]
    rfl
  · rw [pk_un r, h c]
    by_cases q : c < i ∧ t1 ≤ f1 c
    · rw [if_pos q, if_pos ⟨by omega, q.2⟩]
    · rw [if_neg q, if_neg (fun q2 => q ⟨by omega, q2.2⟩)]
section
variable {f1 f2 f3 f5 g6 g : Nat → Int32} {b v : Int32} {w h i j : Nat}
theorem mk_s (hm : ∀ c, c % 10 < w → c / 10 < h → (c / 10 < j ∨ (c / 10 = j ∧ c % 10 < i)) → g6 c = mkI f1 f2 f3 f5 b c) (e : g = upd g6 (j * 10 + i) (vp_nar .boolean v)) (hv : mkI f1 f2 f3 f5 b (j * 10 + i) = vp_nar .boolean v) : ∀ c, c % 10 < w → c / 10 < h → (c / 10 < j ∨ (c / 10 = j ∧ c % 10 < i + 1)) → g c = mkI f1 f2 f3 f5 b c := by
  intro c h1 h2 h3
  subst e
  by_cases r : c = j * 10 + i
  · subst r; rw [pk_us]; exact hv.symm
  · rw [pk_un r]; exact hm c h1 h2 (by omega)
theorem mk_e0 (hi : i < 10) (hm : ∃ c, c % 10 < w ∧ c / 10 < h ∧ (c / 10 < j ∨ (c / 10 = j ∧ c % 10 < i)) ∧ ¬ g6 c = 0) (e : g = upd g6 (j * 10 + i) v) : ∃ c, c % 10 < w ∧ c / 10 < h ∧ (c / 10 < j ∨ (c / 10 = j ∧ c % 10 < i + 1)) ∧ ¬ g c = 0 := by
  obtain ⟨c, h1, h2, h3, h4⟩ := hm
  subst e
  exact ⟨c, h1, h2, by omega, by rw [pk_un (show ¬ c = j * 10 + i by omega)]; exact h4⟩
theorem mk_a0 (hm : ∀ c, c % 10 < w → c / 10 < h → (c / 10 < j ∨ (c / 10 = j ∧ c % 10 < i)) → g6 c = 0) (e : g = upd g6 (j * 10 + i) (vp_nar .boolean 0)) : ∀ c, c % 10 < w → c / 10 < h → (c / 10 < j ∨ (c / 10 = j ∧ c % 10 < i + 1)) → g c = 0 := by
  intro c h1 h2 h3
  subst e
  by_cases r : c = j * 10 + i
  · subst r; rw [pk_us]; rfl
  · rw [pk_un r]; exact hm c h1 h2 (by omega)
end
end ST0
section ST1
def dfN (a b : Nat) : Nat := (a - b) + (b - a)
theorem abs_nI {a b : Nat} {x : Int32} (ha : a < 2 ^ 30) (hb : b < 2 ^ 30) (e : x = nI a - nI b) : (if 0 ≤ x then x else 0 - x) = nI (dfN a b) := by
  subst e
  have h0 : (0 : Int32).toInt = 0 := by decide
  have hs : (nI a - nI b).toInt = (a : Int) - b := z_sub (nI_toInt (by omega)) (nI_toInt (by omega)) (by omega) (by omega)
  unfold dfN
  by_cases h : b ≤ a
  · rw [if_pos (Int32.le_iff_toInt_le.mpr (by rw [hs, h0]; omega)), nI_subN h]
    congr 1
    omega
  · rw [if_neg (fun q => by have := Int32.le_iff_toInt_le.mp q; rw [hs, h0] at this; omega)]
    apply Int32.toInt_inj.mp
    rw [z_sub h0 hs (by omega) (by omega), nI_toInt (by omega)]
    omega
theorem max_nI {a b : Nat} (ha : a < 2 ^ 31) (hb : b < 2 ^ 31) : (if nI a < nI b then nI b else nI a) = nI (max a b) := by
  by_cases h : a < b
  · rw [if_pos ((nI_ltI ha hb).mpr h), Nat.max_eq_right (by omega)]
  · rw [if_neg (fun q => h ((nI_ltI ha hb).mp q)), Nat.max_eq_left (by omega)]
/-- nearer than n -/
def nrP (a c n : Nat) : Prop := a % 10 < c % 10 + n ∧ c % 10 < a % 10 + n ∧ a / 10 < c / 10 + n ∧ c / 10 < a / 10 + n
theorem nr_max {a i j n : Nat} (hi : i < 10) : max (dfN (a % 10) i) (dfN (a / 10) j) < n ↔ nrP a (j * 10 + i) n := by
  unfold nrP dfN
  rw [show (j * 10 + i) % 10 = i by omega, show (j * 10 + i) / 10 = j by omega, Nat.max_lt]
  omega
def crkP (w h : Nat) (f5 : Nat → Int32) (n c : Nat) : Prop := ∃ a, a % 10 < w ∧ a / 10 < h ∧ ¬ f5 a = 0 ∧ nrP a c n
def allP (w h : Nat) (f1 f3 : Nat → Int32) (b : Int32) : Prop := ∀ c, c % 10 < w → c / 10 < h → ¬ brI f1 b c < f3 c
def firP (bc : Nat) (B3 B5 : Nat → Int32) (wh : Nat → Nat) (n c : Nat) : Prop := ∃ b, b < bc ∧ B5 b = 1 ∧ ¬ B3 b = 0 ∧ nrP (wh b) c n
def alsoP (w h : Nat) (f1 f3 : Nat → Int32) (wt b : Int32) (c : Nat) : Prop := ∀ a, a % 10 < w → a / 10 < h → nrP a c 2 → ¬ brI f1 b a < f3 a + wt * nI (shN c a)
theorem crk_iff {w h i j n : Nat} {f5 : Nat → Int32} (hi : i < 10) : (∃ c, c % 10 < w ∧ c / 10 < h ∧ ¬ f5 c = 0 ∧ c % 10 < i + n ∧ i < c % 10 + n ∧ c / 10 < j + n ∧ j < c / 10 + n) ↔ crkP w h f5 n (j * 10 + i) := by
  unfold crkP nrP
  rw [show (j * 10 + i) % 10 = i by omega, show (j * 10 + i) / 10 = j by omega]
theorem also_iff {w h i j : Nat} {f1 f3 : Nat → Int32} {wt b : Int32} (hi : i < 10) : (∀ c, c % 10 < w → c / 10 < h → c % 10 < i + 2 → i < c % 10 + 2 → c / 10 < j + 2 → j < c / 10 + 2 → ¬ brI f1 b c < f3 c + wt * nI (shN (j * 10 + i) c)) ↔ alsoP w h f1 f3 wt b (j * 10 + i) := by
  unfold alsoP nrP
  rw [show (j * 10 + i) % 10 = i by omega, show (j * 10 + i) / 10 = j by omega]
  exact ⟨fun k c q1 q2 q => k c q1 q2 q.1 q.2.1 q.2.2.1 q.2.2.2, fun k c q1 q2 a1 a2 a3 a4 => k c q1 q2 ⟨a1, a2, a3, a4⟩⟩
/-- the strain of cell c -/
def strN (st : Nat → Int32) (wt wh : Nat → Nat) (c : Nat) : Nat → Nat
  | 0 => 0
  | n + 1 => strN st wt wh c n + (if st n = 1 then wt n * shN (wh n) c else 0)
theorem shN_le (a c : Nat) : shN a c ≤ 4 := by
  unfold shN
  split
  · split <;> split <;> omega
  · omega
theorem strN_same {st st' : Nat → Int32} {wt wt' wh wh' : Nat → Nat} {c : Nat} : ∀ n, (∀ b, b < n → (st b = 1 ↔ st' b = 1) ∧ (st b = 1 → wt b = wt' b ∧ wh b = wh' b)) → strN st wt wh c n = strN st' wt' wh' c n := by
  intro n
  induction n with
  | zero => intro _; rfl
  | succ n ih =>
    intro h
    show strN st wt wh c n + _ = strN st' wt' wh' c n + _
    rw [ih (fun b hb => h b (by omega))]
    have hn := h n (by omega)
    by_cases q : st n = 1
    · rw [if_pos q, if_pos (hn.1.mp q), (hn.2 q).1, (hn.2 q).2]
    · rw [if_neg q, if_neg (fun r => q (hn.1.mpr r))]
theorem strN_le {st : Nat → Int32} {wt wh : Nat → Nat} {c : Nat} : ∀ n, (∀ b, b < n → wt b ≤ 50) → strN st wt wh c n ≤ 200 * n := by
  intro n
  induction n with
  | zero => intro _; exact Nat.le_refl _
  | succ n ih =>
    intro h
    show strN st wt wh c n + _ ≤ _
    have h1 := ih (fun b hb => h b (by omega))
    have h2 := h n (by omega)
    have h3 := shN_le (wh n) c
    split
    · have : wt n * shN (wh n) c ≤ 50 * 4 := Nat.mul_le_mul h2 h3
      omega
    · omega
theorem strN_put {st : Nat → Int32} {wt wh : Nat → Nat} {a c b : Nat} (hb : ¬ st b = 1) : ∀ n, b < n → strN (upd st b 1) wt (upN wh b c) a n = strN st wt wh a n + wt b * shN c a := by
  intro n
  induction n with
  | zero => intro h; exact absurd h (Nat.not_lt_zero _)
  | succ n ih =>
    intro h
    show strN (upd st b 1) wt (upN wh b c) a n + _ = strN st wt wh a n + _ + _
    by_cases r : b = n
    · subst r
      rw [strN_same (st' := st) (wt' := wt) (wh' := wh) b (fun q hq => ⟨by rw [pk_un (show ¬ q = b by omega)], fun _ => ⟨rfl, upN_n (show ¬ q = b by omega)⟩⟩), pk_us, if_pos rfl, upN_s, if_neg hb]
      omega
    · rw [ih (by omega), pk_un (show ¬ n = b by omega), upN_n (show ¬ n = b by omega)]
      omega
theorem strN_lift {st : Nat → Int32} {wt wh : Nat → Nat} {a b : Nat} {s : Int32} (hb : st b = 1) (hs : ¬ s = 1) : ∀ n, b < n → strN st wt wh a n = strN (upd st b s) wt wh a n + wt b * shN (wh b) a := by
  intro n
  induction n with
  | zero => intro h; exact absurd h (Nat.not_lt_zero _)
  | succ n ih =>
    intro h
    show strN st wt wh a n + _ = strN (upd st b s) wt wh a n + _ + _
    by_cases r : b = n
    · subst r
      rw [strN_same (st := upd st b s) (st' := st) (wt' := wt) (wh' := wh) b (fun q hq => ⟨by rw [pk_un (show ¬ q = b by omega)], fun _ => ⟨rfl, rfl⟩⟩), pk_us, if_neg hs, if_pos hb]
      omega
    · rw [ih (by omega), pk_un (show ¬ n = b by omega)]
      omega
/-- the class's booths -/
def CB (bc w h : Nat) (B1 B5 B6 B7 : Nat → Int32) (wh : Nat → Nat) : Prop := ∀ b, b < bc → B1 b = nI b ∧ (B5 b = 0 ∨ B5 b = 1 ∨ B5 b = 2) ∧ (B5 b = 1 → wh b % 10 < w ∧ wh b / 10 < h ∧ B6 b = nI (wh b % 10) ∧ B7 b = nI (wh b / 10)) ∧ (¬ B5 b = 1 → B6 b = (-1) ∧ B7 b = (-1))
def CDi (bc : Nat) (B5 : Nat → Int32) (wh : Nat → Nat) : Prop := ∀ a b, a < bc → b < bc → B5 a = 1 → B5 b = 1 → wh a = wh b → a = b
def CG (bc w h : Nat) (B5 f4 : Nat → Int32) (wh : Nat → Nat) : Prop := ∀ c, c % 10 < w → c / 10 < h → (∃ b, b < bc ∧ B5 b = 1 ∧ wh b = c ∧ f4 c = nI b) ∨ (f4 c = (-1) ∧ ∀ b, b < bc → B5 b = 1 → ¬ wh b = c)
def CS (bc w h : Nat) (B5 f3 : Nat → Int32) (wt wh : Nat → Nat) : Prop := ∀ c, c % 10 < w → c / 10 < h → f3 c = nI (strN B5 wt wh c bc)
def CW (bc : Nat) (B2 : Nat → Int32) (wt : Nat → Nat) : Prop := ∀ b, b < bc → B2 b = nI (wt b) ∧ wt b ≤ 50
def CI (bc w h : Nat) (B1 B2 B5 B6 B7 f3 f4 : Nat → Int32) (wt wh : Nat → Nat) : Prop := CB bc w h B1 B5 B6 B7 wh ∧ CDi bc B5 wh ∧ CG bc w h B5 f4 wh ∧ CS bc w h B5 f3 wt wh ∧ CW bc B2 wt
section
variable {bc w h b c : Nat} {B1 B2 B3 B5 B6 B7 G5 G6 G7 f1 f3 f4 f5 g3 g4 : Nat → Int32} {wt wh : Nat → Nat} {s : Int32}
theorem CI_put (hbc : bc ≤ 10) (H : CI bc w h B1 B2 B5 B6 B7 f3 f4 wt wh) (hb : b < bc) (h0 : ¬ B5 b = 1) (hc1 : c % 10 < w) (hc2 : c / 10 < h) (hf : f4 c = (-1)) (e5 : G5 = upd B5 b 1) (e6 : G6 = upd B6 b (nI (c % 10))) (e7 : G7 = upd B7 b (nI (c / 10))) (e4 : g4 = upd f4 c (B1 b)) (e3 : ∀ a, a % 10 < w → a / 10 < h → g3 a = f3 a + B2 b * nI (shN c a)) : CI bc w h B1 B2 G5 G6 G7 g3 g4 wt (upN wh b c) := by
  obtain ⟨H1, H2, H3, H4, H5⟩ := H
  subst e5; subst e6; subst e7; subst e4
  have hno : ∀ a, a < bc → B5 a = 1 → ¬ wh a = c := by
    rcases H3 c hc1 hc2 with ⟨a, ha, _, _, q⟩ | ⟨_, q⟩
    · rw [hf] at q
      exact absurd q.symm (nI_nm1 (by omega))
    · exact q
  refine ⟨fun a ha => ?_, fun a d ha hd sa sd e => ?_, fun a h1 h2 => ?_, fun a h1 h2 => ?_, H5⟩
  · by_cases r : a = b
    · subst r
      rw [pk_us, pk_us, pk_us, upN_s]
      exact ⟨(H1 a ha).1, Or.inr (Or.inl rfl), fun _ => ⟨hc1, hc2, rfl, rfl⟩, fun q => absurd rfl q⟩
    · rw [pk_un r, pk_un r, pk_un r, upN_n r]
      exact H1 a ha
  · by_cases ra : a = b
    · by_cases rd : d = b
      · rw [ra, rd]
      · exfalso
        subst ra
        rw [pk_un rd] at sd
        rw [upN_s, upN_n rd] at e
        exact hno d hd sd e.symm
    · by_cases rd : d = b
      · exfalso
        subst rd
        rw [pk_un ra] at sa
        rw [upN_s, upN_n ra] at e
        exact hno a ha sa e
      · rw [pk_un ra] at sa
        rw [pk_un rd] at sd
        rw [upN_n ra, upN_n rd] at e
        exact H2 a d ha hd sa sd e
  · by_cases r : a = c
    · subst r
      exact Or.inl ⟨b, hb, pk_us, upN_s, by rw [pk_us]; exact (H1 b hb).1⟩
    · rw [pk_un r]
      rcases H3 a h1 h2 with ⟨d, hd, sd, ed, fd⟩ | ⟨fd, q⟩
      · have rd : ¬ d = b := fun q => h0 (q ▸ sd)
        exact Or.inl ⟨d, hd, by rw [pk_un rd]; exact sd, by rw [upN_n rd]; exact ed, fd⟩
      · refine Or.inr ⟨fd, fun d hd sd => ?_⟩
        by_cases rd : d = b
        · subst rd
          rw [upN_s]
          exact fun q => r q.symm
        · rw [pk_un rd] at sd
          rw [upN_n rd]
          exact q d hd sd
  · rw [e3 a h1 h2, H4 a h1 h2, (H5 b hb).1, strN_put h0 bc hb, ← nI_add]
    congr 1
    exact pk_mul _ _
theorem CI_lift (hbc : bc ≤ 10) (H : CI bc w h B1 B2 B5 B6 B7 f3 f4 wt wh) (hb : b < bc) (h0 : B5 b = 1) (hs : s = 0 ∨ s = 2) (hc : c = wh b) (e5 : G5 = upd B5 b s) (e6 : G6 = upd B6 b (-1)) (e7 : G7 = upd B7 b (-1)) (e4 : g4 = upd f4 c (-1)) (e3 : ∀ a, a % 10 < w → a / 10 < h → g3 a = f3 a + (-(B2 b)) * nI (shN c a)) : CI bc w h B1 B2 G5 G6 G7 g3 g4 wt wh := by
  obtain ⟨H1, H2, H3, H4, H5⟩ := H
  subst e5; subst e6; subst e7; subst e4; subst hc
  have hs1 : ¬ s = 1 := by rcases hs with rfl | rfl <;> decide
  refine ⟨fun a ha => ?_, fun a d ha hd sa sd e => ?_, fun a h1 h2 => ?_, fun a h1 h2 => ?_, H5⟩
  · by_cases r : a = b
    · subst r
      rw [pk_us, pk_us, pk_us]
      exact ⟨(H1 a ha).1, hs.elim Or.inl (fun q => Or.inr (Or.inr q)), fun q => absurd q hs1, fun _ => ⟨rfl, rfl⟩⟩
    · rw [pk_un r, pk_un r, pk_un r]
      exact H1 a ha
  · have ra : ¬ a = b := fun r => by subst r; rw [pk_us] at sa; exact hs1 sa
    have rd : ¬ d = b := fun r => by subst r; rw [pk_us] at sd; exact hs1 sd
    rw [pk_un ra] at sa
    rw [pk_un rd] at sd
    exact H2 a d ha hd sa sd e
  · by_cases r : a = wh b
    · subst r
      refine Or.inr ⟨pk_us, fun d hd sd q => ?_⟩
      have rd : ¬ d = b := fun r => by subst r; rw [pk_us] at sd; exact hs1 sd
      rw [pk_un rd] at sd
      exact rd (H2 d b hd hb sd h0 q)
    · rw [pk_un r]
      rcases H3 a h1 h2 with ⟨d, hd, sd, ed, fd⟩ | ⟨fd, q⟩
      · have rd : ¬ d = b := fun q => r (q ▸ ed.symm)
        exact Or.inl ⟨d, hd, by rw [pk_un rd]; exact sd, ed, fd⟩
      · refine Or.inr ⟨fd, fun d hd sd => ?_⟩
        have rd : ¬ d = b := fun r => by subst r; rw [pk_us] at sd; exact hs1 sd
        rw [pk_un rd] at sd
        exact q d hd sd
  · rw [e3 a h1 h2, H4 a h1 h2, (H5 b hb).1, strN_lift h0 hs1 bc hb, ← nI_add, ← pk_mul, Int32.neg_mul, Int32.add_assoc, Int32.add_right_neg, Int32.add_zero]
theorem CI_where (H : CI bc w h B1 B2 B5 B6 B7 f3 f4 wt wh) (hb : b < bc) (h0 : B5 b = 1) : wh b % 10 < w ∧ wh b / 10 < h ∧ B6 b = nI (wh b % 10) ∧ B7 b = nI (wh b / 10) := (H.1 b hb).2.2.1 h0
/-- a booth may be set, as the class asks -/
def mayC (bc w h : Nat) (B2 B3 B5 f1 f3 f4 f5 : Nat → Int32) (b0 : Int32) (wh ru : Nat → Nat) (b c : Nat) : Prop := 0 < f1 c ∧ f5 c = 0 ∧ f4 c = (-1) ∧ ¬ crkP w h f5 (ru 4) c ∧ allP w h f1 f3 b0 ∧ (B3 b = 0 ∨ ¬ firP bc B3 B5 wh (ru 3) c) ∧ alsoP w h f1 f3 (B2 b) b0 c
/-- as the reference asks -/
def mayM (bc w h : Nat) (B3 B5 f1 f5 : Nat → Int32) (b0 : Int32) (wt wh ru : Nat → Nat) (b c : Nat) : Prop := ¬ crkP w h f5 (ru 4) c ∧ (B3 b = 0 ∨ ¬ firP bc B3 B5 wh (ru 3) c) ∧ ∀ a, a % 10 < w → a / 10 < h → ¬ brI f1 b0 a < nI (strN (upd B5 b 1) wt (upN wh b c) a bc)
theorem nr_2 {a c : Nat} (h : ¬ nrP a c 2) : shN c a = 0 := by
  unfold shN
  rw [if_neg (fun q => h (by unfold nrP; omega))]
theorem may_iff {b0 : Int32} {ru : Nat → Nat} (hbc : bc ≤ 10) (H : CI bc w h B1 B2 B5 B6 B7 f3 f4 wt wh) (hb : b < bc) (h0 : ¬ B5 b = 1) : (allP w h f1 f3 b0 ∧ alsoP w h f1 f3 (B2 b) b0 c) ↔ (∀ a, a % 10 < w → a / 10 < h → ¬ brI f1 b0 a < nI (strN (upd B5 b 1) wt (upN wh b c) a bc)) := by
  obtain ⟨H1, H2, H3, H4, H5⟩ := H
  have hw : ∀ a, strN B5 wt wh a bc ≤ 2000 := fun a => by
    have := strN_le (st := B5) (wt := wt) (wh := wh) (c := a) bc (fun d hd => (H5 d hd).2)
    omega
  have hm : ∀ a, wt b * shN c a ≤ 200 := fun a => by
    have h3 := Nat.mul_le_mul (H5 b hb).2 (shN_le c a)
    omega
  have e : ∀ a, a % 10 < w → a / 10 < h → f3 a + B2 b * nI (shN c a) = nI (strN (upd B5 b 1) wt (upN wh b c) a bc) := by
    intro a h1 h2
    rw [H4 a h1 h2, (H5 b hb).1, strN_put h0 bc hb, ← nI_add]
    congr 1
    exact pk_mul _ _
  constructor
  · intro k a h1 h2
    by_cases q : nrP a c 2
    · rw [← e a h1 h2]
      exact k.2 a h1 h2 q
    · rw [strN_put h0 bc hb, nr_2 q, Nat.mul_zero, Nat.add_zero, ← H4 a h1 h2]
      exact k.1 a h1 h2
  · intro k
    refine ⟨fun a h1 h2 q => k a h1 h2 ?_, fun a h1 h2 _ => by rw [e a h1 h2]; exact k a h1 h2⟩
    rw [H4 a h1 h2] at q
    have h3 := hw a
    have h4 := hm a
    refine Int32.lt_iff_toInt_lt.mpr ?_
    have q2 := Int32.lt_iff_toInt_lt.mp q
    rw [nI_toInt (by omega)] at q2
    rw [strN_put h0 bc hb, nI_toInt (by omega)]
    omega
end
end ST1
