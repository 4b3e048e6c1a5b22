section ST2
theorem sz_neg {a b : Nat} {x : Int32} (ha : a < 1000) (hb : b < 1000) (e : x = nI a - nI b) (h : x < 0) : -x = nI (dfN a b) := by
  have h0 : (0 : Int32).toInt = 0 := by decide
  have hx : x.toInt = (a : Int) - b := by rw [e]; exact z_sub (nI_toInt (by omega)) (nI_toInt (by omega)) (by omega) (by omega)
  have h1 := z_lt hx h0 h
  apply Int32.toInt_inj.mp
  have e0 : -x = 0 - x := by rw [Int32.sub_eq_add_neg, Int32.zero_add]
  unfold dfN
  rw [e0, z_sub h0 hx (by omega) (by omega), nI_toInt (by omega)]
  omega
theorem sz_pos {a b : Nat} {x : Int32} (ha : a < 1000) (hb : b < 1000) (e : x = nI a - nI b) (h : ¬ x < 0) : x = nI (dfN a b) := by
  have h0 : (0 : Int32).toInt = 0 := by decide
  have hx : x.toInt = (a : Int) - b := by rw [e]; exact z_sub (nI_toInt (by omega)) (nI_toInt (by omega)) (by omega) (by omega)
  have h1 := z_nlt hx h0 h
  apply Int32.toInt_inj.mp
  unfold dfN
  rw [hx, nI_toInt (by omega)]
  omega
def frN (a b : Nat) : Nat := max (dfN (a % 10) (b % 10)) (dfN (a / 10) (b / 10))
theorem fr_nr {a b n : Nat} : frN a b < n ↔ nrP a b n := by
  unfold frN nrP dfN
  rw [Nat.max_lt]
  omega
theorem frN_le {a b : Nat} (ha : a < 100) (hb : b < 100) : frN a b ≤ 9 := by
  unfold frN dfN
  exact Nat.max_le.mpr ⟨by omega, by omega⟩
theorem frN_1 {a b : Nat} (h : dfN (a % 10) (b % 10) ≤ dfN (a / 10) (b / 10)) : dfN (a / 10) (b / 10) = frN a b := (Nat.max_eq_right h).symm
theorem frN_2 {a b : Nat} (h : dfN (a / 10) (b / 10) < dfN (a % 10) (b % 10)) : dfN (a % 10) (b % 10) = frN a b := (Nat.max_eq_left (Nat.le_of_lt h)).symm
section
variable {a c : Nat}
theorem shN_0 (h : 1 < dfN (a % 10) (c % 10) ∨ 1 < dfN (a / 10) (c / 10)) : shN a c = 0 := by
  unfold shN dfN at *
  rw [if_neg (by omega)]
theorem shN_v {v : Nat} (h1 : dfN (a % 10) (c % 10) ≤ 1) (h2 : dfN (a / 10) (c / 10) ≤ 1) (hv : (dfN (a % 10) (c % 10) + dfN (a / 10) (c / 10) = 0 ∧ v = 4) ∨ (dfN (a % 10) (c % 10) + dfN (a / 10) (c / 10) = 1 ∧ v = 2) ∨ (¬ dfN (a % 10) (c % 10) + dfN (a / 10) (c / 10) = 0 ∧ ¬ dfN (a % 10) (c % 10) + dfN (a / 10) (c / 10) = 1 ∧ v = 1)) : shN a c = v := by
  unfold shN dfN at *
  rw [if_pos (by omega)]
  by_cases q1 : a % 10 = c % 10
  · by_cases q2 : a / 10 = c / 10
    · rw [if_pos q1, if_pos q2]; omega
    · rw [if_pos q1, if_neg q2]; omega
  · by_cases q2 : a / 10 = c / 10
    · rw [if_neg q1, if_pos q2]; omega
    · rw [if_neg q1, if_neg q2]; omega
end
theorem strN_n {st : Nat → Int32} {wt wh : Nat → Nat} {c n : Nat} (h : ¬ st n = 1 ∨ shN (wh n) c = 0) : strN st wt wh c n = strN st wt wh c (n + 1) := by
  show _ = strN st wt wh c n + _
  rcases h with h | h
  · rw [if_neg h, Nat.add_zero]
  · rw [h]
    split <;> simp
theorem strN_y {st : Nat → Int32} {wt wh : Nat → Nat} {c n v : Nat} (h : st n = 1) (hv : shN (wh n) c = v) : strN st wt wh c n + wt n * v = strN st wt wh c (n + 1) := by
  show _ = strN st wt wh c n + _
  rw [if_pos h, hv]
def mdN (a c : Nat) : Nat := dfN (a % 10) (c % 10) + dfN (a / 10) (c / 10)
/-- what fires take from a cell -/
def firS (ru fi st : Nat → Int32) (wh : Nat → Nat) (c : Nat) : Nat → Int32
  | 0 => 0
  | n + 1 => firS ru fi st wh c n + (if st n = 1 ∧ ¬ fi n = 0 then (if mdN (wh n) c = 0 then ru 1 else if mdN (wh n) c = 1 then ru 2 else 0) else 0)
theorem firS_n {ru fi st : Nat → Int32} {wh : Nat → Nat} {c n : Nat} (h : ¬ (st n = 1 ∧ ¬ fi n = 0)) : firS ru fi st wh c n = firS ru fi st wh c (n + 1) := by
  show _ = firS ru fi st wh c n + _
  rw [if_neg h, Int32.add_zero]
theorem firS_y {ru fi st : Nat → Int32} {wh : Nat → Nat} {c n : Nat} {v : Int32} (h : st n = 1 ∧ ¬ fi n = 0) (hv : v = if mdN (wh n) c = 0 then ru 1 else if mdN (wh n) c = 1 then ru 2 else 0) : firS ru fi st wh c n + v = firS ru fi st wh c (n + 1) := by
  show _ = firS ru fi st wh c n + _
  rw [if_pos h, hv]
theorem upd_back {f g g' : Nat → Int32} {b : Nat} (h : f b = 0) (e : g = upd f b 1) (e2 : g' = upd g b 0) : g' = f := by
  subst e2; subst e
  funext q
  by_cases r : q = b
  · subst r; rw [pk_us, h]
  · rw [pk_un r, pk_un r]
theorem wm_put {bc b c : Nat} {f fw g gw' : Nat → Int32} {wh : Nat → Nat} (h : ∀ q, q < bc → f q = 1 → fw q = nI (wh q) ∧ wh q < 100) (hc : c < 100) (e : g = upd f b 1) (e2 : gw' = upd fw b (nI c)) : ∀ q, q < bc → g q = 1 → gw' q = nI (upN wh b c q) ∧ upN wh b c q < 100 := by
  intro q hq hs
  subst e; subst e2
  by_cases r : q = b
  · subst r; rw [pk_us, upN_s]; exact ⟨rfl, hc⟩
  · rw [pk_un r] at hs
    rw [pk_un r, upN_n r]
    exact h q hq hs
theorem out_no {x y : Int32} {i j w h : Nat} (e1 : x = nI i) (e2 : y = nI j) (h1 : i < w) (h2 : j < h) (hw : w ≤ 10) (hh : h ≤ 10) (o : x < 0 ∨ ¬ x < nI w ∨ y < 0 ∨ ¬ y < nI h) : False := by
  have := out_z hw hh o
  rw [e1, e2, nI_toInt (by omega), nI_toInt (by omega)] at this
  omega
end ST2
