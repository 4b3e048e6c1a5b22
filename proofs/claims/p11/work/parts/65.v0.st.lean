section ST4
/-- fires at a place -/
def fcX (fi st : Nat → Int32) (wh : Nat → Nat) (X Y : Int) : Nat → Nat
  | 0 => 0
  | n + 1 => fcX fi st wh X Y n + (if st n = 1 ∧ ¬ fi n = 0 ∧ ((wh n % 10 : Nat) : Int) = X ∧ ((wh n / 10 : Nat) : Int) = Y then 1 else 0)
theorem fc_0 {fi st : Nat → Int32} {wh : Nat → Nat} {X Y : Int} : ∀ n, (∀ b, b < n → st b = 1 → ¬ (((wh b % 10 : Nat) : Int) = X ∧ ((wh b / 10 : Nat) : Int) = Y)) → fcX fi st wh X Y n = 0 := by
  intro n
  induction n with
  | zero => intro _; rfl
  | succ n ih =>
    intro h
    show fcX fi st wh X Y n + _ = 0
    rw [ih (fun b hb => h b (by omega)), if_neg (fun q => h n (by omega) q.1 q.2.2)]
theorem fc_1 {fi st : Nat → Int32} {wh : Nat → Nat} {X Y : Int} {b : Nat} (hs : st b = 1) (hx : ((wh b % 10 : Nat) : Int) = X) (hy : ((wh b / 10 : Nat) : Int) = Y) : ∀ n, b < n → (∀ a, a < n → st a = 1 → wh a = wh b → a = b) → fcX fi st wh X Y n = if fi b = 0 then 0 else 1 := by
  intro n
  induction n with
  | zero => intro h; exact absurd h (Nat.not_lt_zero _)
  | succ n ih =>
    intro hb hu
    show fcX fi st wh X Y n + _ = _
    by_cases r : b = n
    · subst r
      rw [fc_0 b (fun a ha s q => absurd (hu a (by omega) s (by omega)) (by omega)), Nat.zero_add]
      by_cases q : fi b = 0
      · rw [if_pos q, if_neg (fun r => r.2.1 q)]
      · rw [if_neg q, if_pos ⟨hs, q, hx, hy⟩]
    · have hn : (if st n = 1 ∧ ¬ fi n = 0 ∧ ((wh n % 10 : Nat) : Int) = X ∧ ((wh n / 10 : Nat) : Int) = Y then 1 else 0) = 0 := if_neg (fun q => r (hu n (by omega) q.1 (by omega)).symm)
      rw [ih (by omega) (fun a ha => hu a (by omega)), hn, Nat.add_zero]
theorem melt {R fi st : Nat → Int32} {wh : Nat → Nat} {i j : Nat} (hi : i < 10) : ∀ n, firS R fi st wh (j * 10 + i) n = nI (fcX fi st wh i j n) * R 1 + (nI (fcX fi st wh ((i : Int) - 1) j n) + nI (fcX fi st wh ((i : Int) + 1) j n) + nI (fcX fi st wh i ((j : Int) - 1) n) + nI (fcX fi st wh i ((j : Int) + 1) n)) * R 2 := by
  intro n
  induction n with
  | zero =>
    show (0 : Int32) = nI 0 * R 1 + (nI 0 + nI 0 + nI 0 + nI 0) * R 2
    have h0 : nI 0 = (0 : Int32) := rfl
    rw [h0]
    simp
  | succ n ih =>
    have e1 : (j * 10 + i) % 10 = i := by omega
    have e2 : (j * 10 + i) / 10 = j := by omega
    show firS R fi st wh (j * 10 + i) n + _ = nI (fcX fi st wh i j n + _) * R 1 + (nI (fcX fi st wh ((i : Int) - 1) j n + _) + nI (fcX fi st wh ((i : Int) + 1) j n + _) + nI (fcX fi st wh i ((j : Int) - 1) n + _) + nI (fcX fi st wh i ((j : Int) + 1) n + _)) * R 2
    rw [ih]
    have h0 : nI 0 = (0 : Int32) := rfl
    have h1 : nI 1 = (1 : Int32) := rfl
    by_cases hs : st n = 1 ∧ ¬ fi n = 0
    · rw [if_pos hs]
      unfold mdN dfN
      rw [e1, e2]
      simp only [hs.1, hs.2, not_false_eq_true, true_and]
      rw [← nI_add, ← nI_add, ← nI_add, ← nI_add, ← nI_add]
      generalize wh n % 10 = p
      generalize wh n / 10 = q
      by_cases a : p = i
      · by_cases b : q = j
        · rw [if_pos (by omega), if_pos (by omega), if_neg (by omega), if_neg (by omega), if_neg (by omega), if_neg (by omega), h0, h1]
          grind
        · by_cases b1 : q + 1 = j
          · rw [if_neg (by omega), if_pos (by omega), if_neg (by omega), if_neg (by omega), if_neg (by omega), if_pos (by omega), if_neg (by omega), h0, h1]
            grind
          · by_cases b2 : q = j + 1
            · rw [if_neg (by omega), if_pos (by omega), if_neg (by omega), if_neg (by omega), if_neg (by omega), if_neg (by omega), if_pos (by omega), h0, h1]
              grind
            · rw [if_neg (by omega), if_neg (by omega), if_neg (by omega), if_neg (by omega), if_neg (by omega), if_neg (by omega), if_neg (by omega), h0]
              grind
      · by_cases b : q = j
        · by_cases a1 : p + 1 = i
          · rw [if_neg (by omega), if_pos (by omega), if_neg (by omega), if_pos (by omega), if_neg (by omega), if_neg (by omega), if_neg (by omega), h0, h1]
            grind
          · by_cases a2 : p = i + 1
            · rw [if_neg (by omega), if_pos (by omega), if_neg (by omega), if_neg (by omega), if_pos (by omega), if_neg (by omega), if_neg (by omega), h0, h1]
              grind
            · rw [if_neg (by omega), if_neg (by omega), if_neg (by omega), if_neg (by omega), if_neg (by omega), if_neg (by omega), if_neg (by omega), h0]
              grind
        · rw [if_neg (by omega), if_neg (by omega), if_neg (by omega), if_neg (by omega), if_neg (by omega), if_neg (by omega), if_neg (by omega), h0]
          grind
    · rw [if_neg hs, if_neg (fun q => hs ⟨q.1, q.2.1⟩), if_neg (fun q => hs ⟨q.1, q.2.1⟩), if_neg (fun q => hs ⟨q.1, q.2.1⟩), if_neg (fun q => hs ⟨q.1, q.2.1⟩), if_neg (fun q => hs ⟨q.1, q.2.1⟩)]
      simp
theorem out_in {i j w h : Nat} (hi : i < w) (hj : j < h) (hw : w ≤ 10) (hh : h ≤ 10) : ¬ (nI i < 0 ∨ ¬ nI i < nI w ∨ nI j < 0 ∨ ¬ nI j < nI h) := fun o => out_no (i := i) (j := j) rfl rfl hi hj hw hh o
theorem gu_of {bc w h : Nat} {x y r : Int32} {B1 B5 B6 B7 f4 : Nat → Int32} {wh : Nat → Nat} (hw : w ≤ 10) (hh : h ≤ 10) (hB : CB bc w h B1 B5 B6 B7 wh) (hG : CG bc w h B5 f4 wh) (hr : r = if x < 0 ∨ ¬ x < nI w ∨ y < 0 ∨ ¬ y < nI h then (-1) else f4 (cl x y)) : (r = (-1) ∧ ∀ b, b < bc → B5 b = 1 → ¬ (((wh b % 10 : Nat) : Int) = x.toInt ∧ ((wh b / 10 : Nat) : Int) = y.toInt)) ∨ (∃ b, b < bc ∧ B5 b = 1 ∧ ((wh b % 10 : Nat) : Int) = x.toInt ∧ ((wh b / 10 : Nat) : Int) = y.toInt ∧ r = nI b) := by
  by_cases o : x < 0 ∨ ¬ x < nI w ∨ y < 0 ∨ ¬ y < nI h
  · rw [if_pos o] at hr
    have oz := out_z hw hh o
    refine Or.inl ⟨hr, fun b hb s q => ?_⟩
    have q2 := (hB b hb).2.2.1 s
    omega
  · rw [if_neg o] at hr
    obtain ⟨i, hi, ei⟩ : ∃ j : Nat, j < w ∧ x = nI j := n_lt (fun q => o (Or.inl q)) (fun q => o (Or.inr (Or.inl (Int32.not_lt.mpr q)))) (by omega)
    obtain ⟨j, hj, ej⟩ : ∃ k : Nat, k < h ∧ y = nI k := n_lt (fun q => o (Or.inr (Or.inr (Or.inl q)))) (fun q => o (Or.inr (Or.inr (Or.inr (Int32.not_lt.mpr q))))) (by omega)
    subst ei; subst ej
    rw [cl_nI (by omega) (by omega)] at hr
    rw [nI_toInt (by omega), nI_toInt (by omega)]
    rcases hG (j * 10 + i) (by omega) (by omega) with ⟨b, hb, sb, eb, fb⟩ | ⟨fb, q⟩
    · exact Or.inr ⟨b, hb, sb, by omega, by omega, hr.trans fb⟩
    · exact Or.inl ⟨hr.trans fb, fun b hb s p => q b hb s (by omega)⟩
/-- how many are sunk -/
def c2 (st : Nat → Int32) : Nat → Nat
  | 0 => 0
  | n + 1 => c2 st n + (if st n = 2 then 1 else 0)
theorem c2_out {st : Nat → Int32} {b : Nat} {v : Int32} : ∀ n, n ≤ b → c2 (upd st b v) n = c2 st n := by
  intro n
  induction n with
  | zero => intro _; rfl
  | succ n ih =>
    intro h
    show c2 (upd st b v) n + _ = c2 st n + _
    rw [ih (by omega), pk_un (by omega)]
theorem c2_s {st : Nat → Int32} {b : Nat} (hs : st b = 1) : ∀ n, b < n → c2 (upd st b 2) n = c2 st n + 1 := by
  intro n
  induction n with
  | zero => intro h; exact absurd h (Nat.not_lt_zero _)
  | succ n ih =>
    intro h
    show c2 (upd st b 2) n + _ = c2 st n + _ + 1
    by_cases r : b = n
    · subst r
      rw [c2_out b (Nat.le_refl _), pk_us, if_pos rfl, if_neg (by rw [hs]; decide)]
    · rw [ih (by omega), pk_un (by omega)]
      omega
section
variable {w h i j bc c0 b : Nat} {f5 f6 g5 g' B5 G5 G' : Nat → Int32} {wh : Nat → Nat}
theorem bk_g1 (hg : ∀ c, g5 c = if c % 10 < w ∧ c / 10 < h ∧ (c / 10 < j ∨ (c / 10 = j ∧ c % 10 < i)) ∧ ¬ f6 c = 0 then 1 else f5 c) (hi : i < w) (hj : j < h) (hw : w ≤ 10) (hm : ¬ f6 (j * 10 + i) = 0) (e : g' = upd g5 (j * 10 + i) 1) : ∀ c, g' c = if c % 10 < w ∧ c / 10 < h ∧ (c / 10 < j ∨ (c / 10 = j ∧ c % 10 < i + 1)) ∧ ¬ f6 c = 0 then 1 else f5 c := by
  intro c
  subst e
  by_cases r : c = j * 10 + i
  · subst r
    rw [pk_us, if_pos ⟨by omega, by omega, by omega, hm⟩]
  · rw [pk_un r, hg c]
    by_cases q : c % 10 < w ∧ c / 10 < h ∧ (c / 10 < j ∨ (c / 10 = j ∧ c % 10 < i)) ∧ ¬ f6 c = 0
    · rw [if_pos q, if_pos ⟨q.1, q.2.1, by omega, q.2.2.2⟩]
    · rw [if_neg q, if_neg (fun p => q ⟨p.1, p.2.1, by omega, p.2.2.2⟩)]
theorem bk_g0 (hg : ∀ c, g5 c = if c % 10 < w ∧ c / 10 < h ∧ (c / 10 < j ∨ (c / 10 = j ∧ c % 10 < i)) ∧ ¬ f6 c = 0 then 1 else f5 c) (hi : i < w) (hw : w ≤ 10) (hm : f6 (j * 10 + i) = 0) : ∀ c, g5 c = if c % 10 < w ∧ c / 10 < h ∧ (c / 10 < j ∨ (c / 10 = j ∧ c % 10 < i + 1)) ∧ ¬ f6 c = 0 then 1 else f5 c := by
  intro c
  rw [hg c]
  by_cases q : c % 10 < w ∧ c / 10 < h ∧ (c / 10 < j ∨ (c / 10 = j ∧ c % 10 < i)) ∧ ¬ f6 c = 0
  · rw [if_pos q, if_pos ⟨q.1, q.2.1, by omega, q.2.2.2⟩]
  · rw [if_neg q, if_neg (fun p => q ⟨p.1, p.2.1, by
      have : ¬ c = j * 10 + i := fun r => p.2.2.2 (by rw [r]; exact hm)
      omega, p.2.2.2⟩)]
theorem bk_s1 (hG : ∀ b, G5 b = if b < bc ∧ B5 b = 1 ∧ (wh b / 10 < j ∨ (wh b / 10 = j ∧ wh b % 10 < i)) ∧ ¬ f6 (wh b) = 0 then 2 else B5 b) (hd : ∀ a b, a < bc → b < bc → G5 a = 1 → G5 b = 1 → wh a = wh b → a = b) (hi : i < 10) (hb : b < bc) (hs : G5 b = 1) (hc : wh b = j * 10 + i) (hm : ¬ f6 (j * 10 + i) = 0) (e : G' = upd G5 b 2) : ∀ b, G' b = if b < bc ∧ B5 b = 1 ∧ (wh b / 10 < j ∨ (wh b / 10 = j ∧ wh b % 10 < i + 1)) ∧ ¬ f6 (wh b) = 0 then 2 else B5 b := by
  have old : ∀ q, wh q = j * 10 + i → G5 q = B5 q := fun q hq => by
    rw [hG q, if_neg (fun p => by have := p.2.2.1; rw [hq] at this; omega)]
  intro q
  subst e
  by_cases r : q = b
  · subst r
    rw [pk_us, if_pos ⟨hb, (old q hc).symm.trans hs, by rw [hc]; omega, by rw [hc]; exact hm⟩]
  · rw [pk_un r]
    by_cases hq : wh q = j * 10 + i
    · rw [old q hq, if_neg (fun p => r (hd q b p.1 hb ((old q hq).trans p.2.1) hs (hq.trans hc.symm)))]
    · rw [hG q]
      by_cases p : q < bc ∧ B5 q = 1 ∧ (wh q / 10 < j ∨ (wh q / 10 = j ∧ wh q % 10 < i)) ∧ ¬ f6 (wh q) = 0
      · rw [if_pos p, if_pos ⟨p.1, p.2.1, by omega, p.2.2.2⟩]
      · rw [if_neg p, if_neg (fun p2 => p ⟨p2.1, p2.2.1, by omega, p2.2.2.2⟩)]
theorem bk_s0 (hG : ∀ b, G5 b = if b < bc ∧ B5 b = 1 ∧ (wh b / 10 < j ∨ (wh b / 10 = j ∧ wh b % 10 < i)) ∧ ¬ f6 (wh b) = 0 then 2 else B5 b) (hi : i < 10) (hn : f6 (j * 10 + i) = 0 ∨ ∀ b, b < bc → G5 b = 1 → ¬ wh b = j * 10 + i) : ∀ b, G5 b = if b < bc ∧ B5 b = 1 ∧ (wh b / 10 < j ∨ (wh b / 10 = j ∧ wh b % 10 < i + 1)) ∧ ¬ f6 (wh b) = 0 then 2 else B5 b := by
  intro q
  rw [hG q]
  by_cases hq : wh q = j * 10 + i
  · have o1 : ¬ (q < bc ∧ B5 q = 1 ∧ (wh q / 10 < j ∨ (wh q / 10 = j ∧ wh q % 10 < i)) ∧ ¬ f6 (wh q) = 0) := fun p => by
      have := p.2.2.1
      rw [hq] at this
      omega
    rw [if_neg o1]
    rw [if_neg (fun p => by
      rcases hn with hn | hn
      · exact p.2.2.2 (by rw [hq]; exact hn)
      · exact hn q p.1 (by rw [hG q, if_neg o1]; exact p.2.1) hq)]
  · by_cases p : q < bc ∧ B5 q = 1 ∧ (wh q / 10 < j ∨ (wh q / 10 = j ∧ wh q % 10 < i)) ∧ ¬ f6 (wh q) = 0
    · rw [if_pos p, if_pos ⟨p.1, p.2.1, by omega, p.2.2.2⟩]
    · rw [if_neg p, if_neg (fun p2 => p ⟨p2.1, p2.2.1, by omega, p2.2.2.2⟩)]
end
section
variable {w h i j bc : Nat} {f5 f6 g5 B1 B5 B6 B7 G5 : Nat → Int32} {wh : Nat → Nat}
theorem brk_r (hg : ∀ c, g5 c = if c % 10 < w ∧ c / 10 < h ∧ (c / 10 < j ∨ (c / 10 = j ∧ c % 10 < i)) ∧ ¬ f6 c = 0 then 1 else f5 c) (hi : w ≤ i) : ∀ c, g5 c = if c % 10 < w ∧ c / 10 < h ∧ c / 10 < j + 1 ∧ ¬ f6 c = 0 then 1 else f5 c := by
  intro c
  rw [hg c]
  by_cases q : c % 10 < w ∧ c / 10 < h ∧ (c / 10 < j ∨ (c / 10 = j ∧ c % 10 < i)) ∧ ¬ f6 c = 0
  · rw [if_pos q, if_pos ⟨q.1, q.2.1, by omega, q.2.2.2⟩]
  · rw [if_neg q, if_neg (fun p => q ⟨p.1, p.2.1, by omega, p.2.2.2⟩)]
theorem brk_b (hg : ∀ c, g5 c = if c % 10 < w ∧ c / 10 < h ∧ c / 10 < j ∧ ¬ f6 c = 0 then 1 else f5 c) : ∀ c, g5 c = if c % 10 < w ∧ c / 10 < h ∧ (c / 10 < j ∨ (c / 10 = j ∧ c % 10 < 0)) ∧ ¬ f6 c = 0 then 1 else f5 c := by
  intro c
  rw [hg c]
  by_cases q : c % 10 < w ∧ c / 10 < h ∧ c / 10 < j ∧ ¬ f6 c = 0
  · rw [if_pos q, if_pos ⟨q.1, q.2.1, by omega, q.2.2.2⟩]
  · rw [if_neg q, if_neg (fun p => q ⟨p.1, p.2.1, by omega, p.2.2.2⟩)]
theorem brk_e (hg : ∀ c, g5 c = if c % 10 < w ∧ c / 10 < h ∧ c / 10 < j ∧ ¬ f6 c = 0 then 1 else f5 c) (hj : h ≤ j) : ∀ c, g5 c = if c % 10 < w ∧ c / 10 < h ∧ ¬ f6 c = 0 then 1 else f5 c := by
  intro c
  rw [hg c]
  by_cases q : c % 10 < w ∧ c / 10 < h ∧ c / 10 < j ∧ ¬ f6 c = 0
  · rw [if_pos q, if_pos ⟨q.1, q.2.1, q.2.2.2⟩]
  · rw [if_neg q, if_neg (fun p => q ⟨p.1, p.2.1, by omega, p.2.2⟩)]
theorem brs_r {G6 G7 : Nat → Int32} (hG : ∀ b, G5 b = if b < bc ∧ B5 b = 1 ∧ (wh b / 10 < j ∨ (wh b / 10 = j ∧ wh b % 10 < i)) ∧ ¬ f6 (wh b) = 0 then 2 else B5 b) (hB : CB bc w h B1 G5 G6 G7 wh) (hi : w ≤ i) : ∀ b, G5 b = if b < bc ∧ B5 b = 1 ∧ wh b / 10 < j + 1 ∧ ¬ f6 (wh b) = 0 then 2 else B5 b := by
  intro b
  by_cases q : b < bc ∧ B5 b = 1 ∧ (wh b / 10 < j ∨ (wh b / 10 = j ∧ wh b % 10 < i)) ∧ ¬ f6 (wh b) = 0
  · rw [hG b, if_pos q, if_pos ⟨q.1, q.2.1, by omega, q.2.2.2⟩]
  · have e : G5 b = B5 b := by rw [hG b, if_neg q]
    rw [e, if_neg (fun p => q ⟨p.1, p.2.1, by
      have := (hB b p.1).2.2.1 (e.trans p.2.1)
      omega, p.2.2.2⟩)]
theorem brs_b (hG : ∀ b, G5 b = if b < bc ∧ B5 b = 1 ∧ wh b / 10 < j ∧ ¬ f6 (wh b) = 0 then 2 else B5 b) : ∀ b, G5 b = if b < bc ∧ B5 b = 1 ∧ (wh b / 10 < j ∨ (wh b / 10 = j ∧ wh b % 10 < 0)) ∧ ¬ f6 (wh b) = 0 then 2 else B5 b := by
  intro b
  rw [hG b]
  by_cases q : b < bc ∧ B5 b = 1 ∧ wh b / 10 < j ∧ ¬ f6 (wh b) = 0
  · rw [if_pos q, if_pos ⟨q.1, q.2.1, by omega, q.2.2.2⟩]
  · rw [if_neg q, if_neg (fun p => q ⟨p.1, p.2.1, by omega, p.2.2.2⟩)]
theorem brs_e {G6 G7 : Nat → Int32} (hG : ∀ b, G5 b = if b < bc ∧ B5 b = 1 ∧ wh b / 10 < j ∧ ¬ f6 (wh b) = 0 then 2 else B5 b) (hB : CB bc w h B1 G5 G6 G7 wh) (hj : h ≤ j) : ∀ b, G5 b = if b < bc ∧ B5 b = 1 ∧ ¬ f6 (wh b) = 0 then 2 else B5 b := by
  intro b
  by_cases q : b < bc ∧ B5 b = 1 ∧ wh b / 10 < j ∧ ¬ f6 (wh b) = 0
  · rw [hG b, if_pos q, if_pos ⟨q.1, q.2.1, q.2.2.2⟩]
  · have e : G5 b = B5 b := by rw [hG b, if_neg q]
    rw [e, if_neg (fun p => q ⟨p.1, p.2.1, by
      have := (hB b p.1).2.2.1 (e.trans p.2.1)
      omega, p.2.2⟩)]
end
end ST4
section ST5
/-- which cells break, out of cracks and states -/
def mkf (w h bc : Nat) (lo hi : Nat → Int32) (b0 : Int32) (wt wh : Nat → Nat) (x : (Nat → Int32) × (Nat → Int32)) (c : Nat) : Int32 := if c % 10 < w ∧ c / 10 < h then mkI lo hi (fun a => nI (strN x.2 wt wh a bc)) x.1 b0 c else 0
def rnd (w h bc : Nat) (lo hi : Nat → Int32) (b0 : Int32) (wt wh : Nat → Nat) (x : (Nat → Int32) × (Nat → Int32)) : (Nat → Int32) × (Nat → Int32) :=
  (fun c => if mkf w h bc lo hi b0 wt wh x c = 0 then x.1 c else 1, fun b => if b < bc ∧ x.2 b = 1 ∧ ¬ mkf w h bc lo hi b0 wt wh x (wh b) = 0 then 2 else x.2 b)
def itr (w h bc : Nat) (lo hi : Nat → Int32) (b0 : Int32) (wt wh : Nat → Nat) (x : (Nat → Int32) × (Nat → Int32)) : Nat → (Nat → Int32) × (Nat → Int32)
  | 0 => x
  | n + 1 => rnd w h bc lo hi b0 wt wh (itr w h bc lo hi b0 wt wh x n)
def noM (w h bc : Nat) (lo hi : Nat → Int32) (b0 : Int32) (wt wh : Nat → Nat) (x : (Nat → Int32) × (Nat → Int32)) : Prop := ∀ c, mkf w h bc lo hi b0 wt wh x c = 0
section
variable {w h bc : Nat} {lo hi : Nat → Int32} {b0 : Int32} {wt wh : Nat → Nat} {x : (Nat → Int32) × (Nat → Int32)}
theorem rnd_no (hn : noM w h bc lo hi b0 wt wh x) : rnd w h bc lo hi b0 wt wh x = x := by
  unfold rnd
  refine Prod.ext (funext fun c => ?_) (funext fun b => ?_)
  · show (if _ then _ else _) = _
    rw [if_pos (hn c)]
  · show (if _ then _ else _) = _
    rw [if_neg (fun q => q.2.2 (hn _))]
theorem itr_st {n : Nat} (hn : noM w h bc lo hi b0 wt wh (itr w h bc lo hi b0 wt wh x n)) : ∀ m, itr w h bc lo hi b0 wt wh x (n + m) = itr w h bc lo hi b0 wt wh x n := by
  intro m
  induction m with
  | zero => rfl
  | succ m ih =>
    show rnd w h bc lo hi b0 wt wh (itr w h bc lo hi b0 wt wh x (n + m)) = _
    rw [ih, rnd_no hn]
theorem itr_two {n m : Nat} (hn : noM w h bc lo hi b0 wt wh (itr w h bc lo hi b0 wt wh x n)) (hm : noM w h bc lo hi b0 wt wh (itr w h bc lo hi b0 wt wh x m)) : itr w h bc lo hi b0 wt wh x n = itr w h bc lo hi b0 wt wh x m := by
  rw [← itr_st hn m, ← itr_st hm n, Nat.add_comm]
theorem mkf_ck {c : Nat} (h : ¬ mkf w h bc lo hi b0 wt wh x c = 0) : x.1 c = 0 := by
  unfold mkf mkI at h
  split at h
  · split at h
    · rename_i q; exact q.2
    · exact absurd rfl h
  · exact absurd rfl h
theorem nz_n (g : Nat → Int32) : ∀ k, nz g k ≤ k := by
  intro k
  induction k with
  | zero => exact Nat.le_refl _
  | succ k ih =>
    show nz g k + _ ≤ _
    split <;> omega
theorem nz_z {g : Nat → Int32} : ∀ k, nz g k = 0 → ∀ c, c < k → ¬ g c = 0 := by
  intro k
  induction k with
  | zero => intro _ c hc; exact absurd hc (Nat.not_lt_zero c)
  | succ k ih =>
    intro e c hc
    have e2 : nz g k + (if g k = 0 then 1 else 0) = 0 := e
    by_cases r : c = k
    · subst r
      intro r2
      rw [if_pos r2] at e2
      omega
    · exact ih (by omega) c (by omega)
theorem mkf_in {c : Nat} (hw : w ≤ 10) (hh : h ≤ 10) (hc : ¬ mkf w h bc lo hi b0 wt wh x c = 0) : c < 100 := by
  unfold mkf at hc
  split at hc
  · omega
  · exact absurd rfl hc
theorem nz_rnd {N : Nat} (hw : w ≤ 10) (hh : h ≤ 10) (hN : 100 ≤ N) (q : ¬ noM w h bc lo hi b0 wt wh x) : nz (rnd w h bc lo hi b0 wt wh x).1 N < nz x.1 N := by
  obtain ⟨c, hc⟩ := Classical.not_forall.mp q
  have c1 := mkf_in hw hh hc
  refine nz_lt (g := x.1) (g' := (rnd w h bc lo hi b0 wt wh x).1) (fun j hj => ?_) (k := c) (mkf_ck hc) (fun r => ?_) N (by omega)
  · have hj2 : (if mkf w h bc lo hi b0 wt wh x j = 0 then x.1 j else 1) = 0 := hj
    split at hj2
    · exact hj2
    · exact absurd hj2 (by decide)
  · have r2 : (if mkf w h bc lo hi b0 wt wh x c = 0 then x.1 c else 1) = 0 := r
    rw [if_neg hc] at r2
    exact absurd r2 (by decide)
theorem itr_nz {N : Nat} (hw : w ≤ 10) (hh : h ≤ 10) (hN : 100 ≤ N) : ∀ n, nz (itr w h bc lo hi b0 wt wh x n).1 N + n ≤ N ∨ noM w h bc lo hi b0 wt wh (itr w h bc lo hi b0 wt wh x n) := by
  intro n
  induction n with
  | zero => exact Or.inl (nz_n _ N)
  | succ n ih =>
    show nz (rnd w h bc lo hi b0 wt wh (itr w h bc lo hi b0 wt wh x n)).1 N + (n + 1) ≤ N ∨ noM w h bc lo hi b0 wt wh (rnd w h bc lo hi b0 wt wh (itr w h bc lo hi b0 wt wh x n))
    by_cases q : noM w h bc lo hi b0 wt wh (itr w h bc lo hi b0 wt wh x n)
    · rw [rnd_no q]
      exact Or.inr q
    · have h1 := nz_rnd hw hh hN q
      have h2 := ih.resolve_right q
      exact Or.inl (by omega)
theorem itr_N {N : Nat} (hw : w ≤ 10) (hh : h ≤ 10) (hN : 100 ≤ N) : noM w h bc lo hi b0 wt wh (itr w h bc lo hi b0 wt wh x N) := by
  rcases itr_nz (w := w) (h := h) (bc := bc) (lo := lo) (hi := hi) (b0 := b0) (wt := wt) (wh := wh) (x := x) hw hh hN N with q | q
  · intro c
    apply Classical.byContradiction
    intro hc
    have c1 := mkf_in hw hh hc
    exact nz_z N (by omega) c (by omega) (mkf_ck hc)
  · exact q
theorem itr_100 (hw : w ≤ 10) (hh : h ≤ 10) : noM w h bc lo hi b0 wt wh (itr w h bc lo hi b0 wt wh x 100) := itr_N hw hh (Nat.le_refl _)
/-- a round, told by marks -/
theorem rnd_of {f3 f6 g5 G5 B1 B6 B7 : Nat → Int32} (hS : CS bc w h x.2 f3 wt wh) (hB : CB bc w h B1 x.2 B6 B7 wh) (hm : ∀ c, c % 10 < w → c / 10 < h → f6 c = mkI lo hi f3 x.1 b0 c) (hg : ∀ c, g5 c = if c % 10 < w ∧ c / 10 < h ∧ ¬ f6 c = 0 then 1 else x.1 c) (hG : ∀ b, G5 b = if b < bc ∧ x.2 b = 1 ∧ ¬ f6 (wh b) = 0 then 2 else x.2 b) : (g5, G5) = rnd w h bc lo hi b0 wt wh x := by
  have e : ∀ c, c % 10 < w → c / 10 < h → mkf w h bc lo hi b0 wt wh x c = f6 c := by
    intro c h1 h2
    unfold mkf
    rw [if_pos ⟨h1, h2⟩, hm c h1 h2]
    unfold mkI
    rw [hS c h1 h2]
  have e0 : ∀ c, ¬ (c % 10 < w ∧ c / 10 < h) → mkf w h bc lo hi b0 wt wh x c = 0 := fun c q => if_neg q
  unfold rnd
  refine Prod.ext (funext fun c => ?_) (funext fun b => ?_)
  · show g5 c = if _ then _ else _
    rw [hg c]
    by_cases q : c % 10 < w ∧ c / 10 < h
    · rw [e c q.1 q.2]
      by_cases r : f6 c = 0
      · rw [if_neg (fun p => p.2.2 r), if_pos r]
      · rw [if_pos ⟨q.1, q.2, r⟩, if_neg r]
    · rw [e0 c q, if_neg (fun p => q ⟨p.1, p.2.1⟩), if_pos rfl]
  · show G5 b = if _ then _ else _
    rw [hG b]
    by_cases q : b < bc ∧ x.2 b = 1
    · have hq := (hB b q.1).2.2.1 q.2
      rw [e (wh b) hq.1 hq.2.1]
    · rw [if_neg (fun p => q ⟨p.1, p.2.1⟩), if_neg (fun p => q ⟨p.1, p.2.1⟩)]
theorem noM_of {f3 f6 : Nat → Int32} (hS : CS bc w h x.2 f3 wt wh) (hm : ∀ c, c % 10 < w → c / 10 < h → f6 c = mkI lo hi f3 x.1 b0 c) (h0 : ∀ c, c % 10 < w → c / 10 < h → f6 c = 0) : noM w h bc lo hi b0 wt wh x := by
  intro c
  unfold mkf
  by_cases q : c % 10 < w ∧ c / 10 < h
  · rw [if_pos q]
    have := hm c q.1 q.2
    rw [h0 c q.1 q.2] at this
    unfold mkI at *
    rw [hS c q.1 q.2] at this
    exact this.symm
  · rw [if_neg q]
end
/-- an hour's cold -/
def hrL (w h : Nat) (co : Int32) (F : Nat → Int32) (f : Nat → Int32) (c : Nat) : Int32 := if c % 10 < w ∧ c / 10 < h then wbI (f c + (co - F c)) else f c
theorem hr_s {w h i j : Nat} {co : Int32} {F f g g' : Nat → Int32} {v : Int32} (hg : ∀ c, g c = if c % 10 < w ∧ c / 10 < h ∧ (c / 10 < j ∨ (c / 10 = j ∧ c % 10 < i)) then wbI (f c + (co - F c)) else f c) (hi : i < w) (hj : j < h) (hw : w ≤ 10) (ev : v = wbI (g (j * 10 + i) + (co - F (j * 10 + i)))) (e : g' = upd g (j * 10 + i) v) : ∀ c, g' c = if c % 10 < w ∧ c / 10 < h ∧ (c / 10 < j ∨ (c / 10 = j ∧ c % 10 < i + 1)) then wbI (f c + (co - F c)) else f c := by
  intro c
  subst e
  by_cases r : c = j * 10 + i
  · subst r
    rw [pk_us, if_pos (by omega), ev, hg, if_neg (by omega)]
  · rw [pk_un r, hg c]
    by_cases q : c % 10 < w ∧ c / 10 < h ∧ (c / 10 < j ∨ (c / 10 = j ∧ c % 10 < i))
    · rw [if_pos q, if_pos (by omega)]
    · rw [if_neg q, if_neg (by omega)]
section
variable {w h i j : Nat} {co : Int32} {F f g : Nat → Int32}
theorem hr_r (hg : ∀ c, g c = if c % 10 < w ∧ c / 10 < h ∧ (c / 10 < j ∨ (c / 10 = j ∧ c % 10 < i)) then wbI (f c + (co - F c)) else f c) (hi : w ≤ i) : ∀ c, g c = if c % 10 < w ∧ c / 10 < h ∧ c / 10 < j + 1 then wbI (f c + (co - F c)) else f c := by
  intro c
  rw [hg c]
  by_cases q : c % 10 < w ∧ c / 10 < h ∧ (c / 10 < j ∨ (c / 10 = j ∧ c % 10 < i))
  · rw [if_pos q, if_pos (by omega)]
  · rw [if_neg q, if_neg (by omega)]
theorem hr_b (hg : ∀ c, g c = if c % 10 < w ∧ c / 10 < h ∧ c / 10 < j then wbI (f c + (co - F c)) else f c) : ∀ c, g c = if c % 10 < w ∧ c / 10 < h ∧ (c / 10 < j ∨ (c / 10 = j ∧ c % 10 < 0)) then wbI (f c + (co - F c)) else f c := by
  intro c
  rw [hg c]
  by_cases q : c % 10 < w ∧ c / 10 < h ∧ c / 10 < j
  · rw [if_pos q, if_pos (by omega)]
  · rw [if_neg q, if_neg (by omega)]
theorem hr_e (hg : ∀ c, g c = if c % 10 < w ∧ c / 10 < h ∧ c / 10 < j then wbI (f c + (co - F c)) else f c) (hj : h ≤ j) : ∀ c, g c = if c % 10 < w ∧ c / 10 < h then wbI (f c + (co - F c)) else f c := by
  intro c
  rw [hg c]
  by_cases q : c % 10 < w ∧ c / 10 < h ∧ c / 10 < j
  · rw [if_pos q, if_pos (by omega)]
  · rw [if_neg q, if_neg (by omega)]
end
end ST5
