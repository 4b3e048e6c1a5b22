section PARSE
def adv (p : Nat → Bool) : Nat → Nat → Nat
  | 0, i => i
  | k + 1, i => if p i then adv p k (i + 1) else i
/-- the first place from i on, below n, where p doesn't hold; else n -/
def run (p : Nat → Bool) (n i : Nat) : Nat := adv p (n - i) i
theorem run_go {p : Nat → Bool} {n i : Nat} (h : i < n) (hp : p i = true) : run p n i = run p n (i + 1) := by
  unfold run
  rw [show n - i = (n - (i + 1)) + 1 by omega]
  show (if p i then _ else _) = _
  rw [if_pos hp]
theorem run_st {p : Nat → Bool} {n i : Nat} (h : n ≤ i ∨ p i = false) : run p n i = i := by
  unfold run
  rcases Nat.lt_or_ge i n with h1 | h1
  · rw [show n - i = (n - (i + 1)) + 1 by omega]
    show (if p i then _ else _) = _
    rw [if_neg (by rcases h with h | h; omega; rw [h]; decide)]
  · rw [show n - i = 0 by omega]
    rfl
theorem adv_le (p : Nat → Bool) : ∀ k i, i ≤ adv p k i ∧ adv p k i ≤ i + k := by
  intro k
  induction k with
  | zero => intro i; exact ⟨Nat.le_refl _, Nat.le_refl _⟩
  | succ k ih =>
    intro i
    show i ≤ (if p i then _ else _) ∧ (if p i then _ else _) ≤ _
    by_cases h : p i = true
    · rw [if_pos h]
      have := ih (i + 1)
      omega
    · rw [if_neg h]
      omega
theorem run_le {p : Nat → Bool} {n i : Nat} (h : i ≤ n) : i ≤ run p n i ∧ run p n i ≤ n := by
  have := adv_le p (n - i) i
  unfold run
  omega
theorem run_lt {p : Nat → Bool} {n i : Nat} (h : i < n) (hp : p i = true) : i < run p n i := by
  rw [run_go h hp]
  have := (run_le (p := p) (n := n) (i := i + 1) h).1
  omega
theorem run_end {p : Nat → Bool} {n i : Nat} (h : i ≤ n) : run p n i = n ∨ p (run p n i) = false := by
  have key : ∀ k i, adv p k i = i + k ∨ p (adv p k i) = false := by
    intro k
    induction k with
    | zero => intro i; exact Or.inl rfl
    | succ k ih =>
      intro i
      show (if p i then _ else _) = _ ∨ p (if p i then _ else _) = false
      by_cases h : p i = true
      · rw [if_pos h]
        rcases ih (i + 1) with h1 | h1
        · exact Or.inl (by omega)
        · exact Or.inr h1
      · rw [if_neg h]
        exact Or.inr (by simpa using h)
  unfold run
  rcases key (n - i) i with h1 | h1
  · exact Or.inl (by omega)
  · exact Or.inr h1
def cBl (f : Nat → Int32) (j : Nat) : Bool := decide (f j = 10 ∨ f j = 32)
def cLt (f : Nat → Int32) (j : Nat) : Bool := !decide (f j < 97 ∨ 122 < f j)
def cDg (f : Nat → Int32) (j : Nat) : Bool := !decide (f j < 48 ∨ 57 < f j)
theorem cBl_t {f : Nat → Int32} {j : Nat} (h : f j = 10 ∨ f j = 32) : cBl f j = true := decide_eq_true h
theorem cBl_f {f : Nat → Int32} {j : Nat} (h : ¬ (f j = 10 ∨ f j = 32)) : cBl f j = false := decide_eq_false h
theorem cLt_t {f : Nat → Int32} {j : Nat} (h : ¬ (f j < 97 ∨ 122 < f j)) : cLt f j = true := by unfold cLt; rw [decide_eq_false h]; rfl
theorem cLt_f {f : Nat → Int32} {j : Nat} (h : f j < 97 ∨ 122 < f j) : cLt f j = false := by unfold cLt; rw [decide_eq_true h]; rfl
theorem cDg_t {f : Nat → Int32} {j : Nat} (h : ¬ (f j < 48 ∨ 57 < f j)) : cDg f j = true := by unfold cDg; rw [decide_eq_false h]; rfl
theorem cDg_f {f : Nat → Int32} {j : Nat} (h : f j < 48 ∨ 57 < f j) : cDg f j = false := by unfold cDg; rw [decide_eq_true h]; rfl
def tS (f : Nat → Int32) (n i : Nat) : Nat := run (cBl f) n i
def tK (f : Nat → Int32) (n s : Nat) : Nat := if n ≤ s then 0 else if cLt f s then 1 else if cDg f s then 2 else if f s = 59 then 3 else 4
def tN (f : Nat → Int32) (n s : Nat) : Nat := if n ≤ s then s else if cLt f s then run (cLt f) n s else if cDg f s then run (cDg f) n s else s + 1
def dgt (v : Int32) : Nat := v.toNatClampNeg - 48
def sat (f : Nat → Int32) : Nat → Nat → Nat → Nat
  | 0, _, a => a
  | k + 1, i, a => sat f k (i + 1) (min 1000 (a * 10 + dgt (f i)))
def tV (f : Nat → Int32) (n s : Nat) : Nat := sat f (run (cDg f) n s - s) s 0
theorem sat_go {f : Nat → Int32} {E i a : Nat} (h : i < E) : sat f (E - i) i a = sat f (E - (i + 1)) (i + 1) (min 1000 (a * 10 + dgt (f i))) := by
  rw [show E - i = (E - (i + 1)) + 1 by omega]
  rfl
theorem sat_st {f : Nat → Int32} {E i a : Nat} (h : E ≤ i) : sat f (E - i) i a = a := by
  rw [show E - i = 0 by omega]
  rfl
theorem dgt_nI {d : Nat} (h : d ≤ 57) : dgt (nI d) = d - 48 := by
  unfold dgt
  rw [nI_clamp (by omega)]
theorem tS_le {f : Nat → Int32} {n i : Nat} (h : i ≤ n) : i ≤ tS f n i ∧ tS f n i ≤ n := run_le h
theorem tK_0 {f : Nat → Int32} {n s : Nat} (h : n ≤ s) : tK f n s = 0 := if_pos h
theorem tN_0 {f : Nat → Int32} {n s : Nat} (h : n ≤ s) : tN f n s = s := if_pos h
theorem tK_1 {f : Nat → Int32} {n s : Nat} (h : ¬ n ≤ s) (h1 : cLt f s = true) : tK f n s = 1 := by unfold tK; rw [if_neg h, if_pos h1]
theorem tN_1 {f : Nat → Int32} {n s : Nat} (h : ¬ n ≤ s) (h1 : cLt f s = true) : tN f n s = run (cLt f) n s := by unfold tN; rw [if_neg h, if_pos h1]
theorem tK_2 {f : Nat → Int32} {n s : Nat} (h : ¬ n ≤ s) (h1 : cLt f s = false) (h2 : cDg f s = true) : tK f n s = 2 := by unfold tK; rw [if_neg h, if_neg (by rw [h1]; decide), if_pos h2]
theorem tN_2 {f : Nat → Int32} {n s : Nat} (h : ¬ n ≤ s) (h1 : cLt f s = false) (h2 : cDg f s = true) : tN f n s = run (cDg f) n s := by unfold tN; rw [if_neg h, if_neg (by rw [h1]; decide), if_pos h2]
theorem tK_3 {f : Nat → Int32} {n s : Nat} (h : ¬ n ≤ s) (h1 : cLt f s = false) (h2 : cDg f s = false) (h3 : f s = 59) : tK f n s = 3 := by unfold tK; rw [if_neg h, if_neg (by rw [h1]; decide), if_neg (by rw [h2]; decide), if_pos h3]
theorem tK_4 {f : Nat → Int32} {n s : Nat} (h : ¬ n ≤ s) (h1 : cLt f s = false) (h2 : cDg f s = false) (h3 : ¬ f s = 59) : tK f n s = 4 := by unfold tK; rw [if_neg h, if_neg (by rw [h1]; decide), if_neg (by rw [h2]; decide), if_neg h3]
theorem tN_3 {f : Nat → Int32} {n s : Nat} (h : ¬ n ≤ s) (h1 : cLt f s = false) (h2 : cDg f s = false) : tN f n s = s + 1 := by unfold tN; rw [if_neg h, if_neg (by rw [h1]; decide), if_neg (by rw [h2]; decide)]
theorem tN_le {f : Nat → Int32} {n s : Nat} (h : s ≤ n) : s ≤ tN f n s ∧ tN f n s ≤ n := by
  unfold tN
  by_cases h0 : n ≤ s
  · rw [if_pos h0]; omega
  rw [if_neg h0]
  by_cases h1 : cLt f s = true
  · rw [if_pos h1]; exact run_le h
  rw [if_neg h1]
  by_cases h2 : cDg f s = true
  · rw [if_pos h2]; exact run_le h
  rw [if_neg h2]
  omega
theorem tN_lt {f : Nat → Int32} {n s : Nat} (h : s < n) : s < tN f n s := by
  unfold tN
  rw [if_neg (by omega)]
  by_cases h1 : cLt f s = true
  · rw [if_pos h1]; exact run_lt h h1
  rw [if_neg h1]
  by_cases h2 : cDg f s = true
  · rw [if_pos h2]; exact run_lt h h2
  rw [if_neg h2]
  omega
theorem sat_le (f : Nat → Int32) : ∀ k i a, a ≤ 1000 → sat f k i a ≤ 1000 := by
  intro k
  induction k with
  | zero => intro i a h; exact h
  | succ k ih =>
    intro i a h
    exact ih _ _ (Nat.min_le_left _ _)
theorem tV_le {f : Nat → Int32} {n s : Nat} : tV f n s ≤ 1000 := sat_le f _ _ _ (by decide)
/-- the word between a and b is the k-th -/
def wm (f : Nat → Int32) (a b k : Nat) : Prop := b - a = lenN k ∧ ∀ i, i < lenN k → f (a + i) = (stB.getD k []).getD i 0
def cWm (f : Nat → Int32) (a b k : Nat) : Bool := decide (b - a = lenN k ∧ ∀ i, i < lenN k → f (a + i) = (stB.getD k []).getD i 0)
/-- which word it is; 7 if none -/
def wI (f : Nat → Int32) (a b : Nat) : Nat := run (fun k => !cWm f a b k) 7 0
theorem cWm_t {f : Nat → Int32} {a b k : Nat} (h : wm f a b k) : cWm f a b k = true := decide_eq_true h
theorem cWm_f {f : Nat → Int32} {a b k : Nat} (h : ¬ wm f a b k) : cWm f a b k = false := decide_eq_false h
theorem wI_le (f : Nat → Int32) (a b : Nat) : wI f a b ≤ 7 := (run_le (Nat.zero_le _)).2
end PARSE
theorem min_nI {X : Nat} (h : X < 2 ^ 31) : (if nI X < (1000 : Int32) then nI X else (1000 : Int32)) = nI (min 1000 X) := by
  by_cases h1 : nI X < (1000 : Int32)
  · rw [if_pos h1]
    have : X < 1000 := (nI_ltI (b := 1000) h (by decide)).mp h1
    rw [Nat.min_eq_right (by omega)]
  · rw [if_neg h1]
    have : ¬ X < 1000 := fun q => h1 ((nI_ltI (b := 1000) h (by decide)).mpr q)
    rw [Nat.min_eq_left (by omega)]
    rfl
theorem chr7 : ∀ i, i < 7 → ∀ j, j < lenN i → ((((stB.getD i []).getD j 0) &&& 255).toUInt32 % 65536).toInt32 = (stB.getD i []).getD j 0 := by decide +kernel
theorem pre_s {f : Nat → Int32} {a k j : Nat} (h : ∀ q, q < j → f (a + q) = (stB.getD k []).getD q 0) (e : f (a + j) = (stB.getD k []).getD j 0) : ∀ q, q < j + 1 → f (a + q) = (stB.getD k []).getD q 0 := by
  intro q hq
  rcases (show q < j ∨ q = j by omega) with h1 | rfl
  · exact h q h1
  · exact e
section PARSE2
def leN (i : Nat) : Nat := ([1, 0, 0, 0, 1, 0, 0] : List Nat).getD i 0
def mxN (i : Nat) : Nat := ([999, 9, 9, 4, 99, 99, 9] : List Nat).getD i 0
theorem enLe_nI : ∀ i, i < 7 → enLe.getD i 0 = nI (leN i) := by decide +kernel
theorem enMo_nI : ∀ i, i < 7 → enMo.getD i 0 = nI (mxN i) := by decide +kernel
theorem leN_le : ∀ i, i < 7 → leN i ≤ 1 := by decide +kernel
theorem mxN_le : ∀ i, i < 7 → mxN i ≤ 999 := by decide +kernel
def nLo (w j : Nat) : Nat := if w = 6 ∧ j = 2 then 1 else leN w
def upN (v : Nat → Nat) (j x : Nat) : Nat → Nat := fun q => if q = j then x else v q
theorem upN_s {v : Nat → Nat} {j x : Nat} : upN v j x j = x := if_pos rfl
theorem upN_n {v : Nat → Nat} {j x q : Nat} (h : ¬ q = j) : upN v j x q = v q := if_neg h
def cDup (sx sy : Nat → Nat) (sc a b : Nat) : Bool := decide (∃ k, k < sc ∧ sx k = a ∧ sy k = b)
theorem cDup_t {sx sy : Nat → Nat} {sc a b : Nat} (h : ∃ k, k < sc ∧ sx k = a ∧ sy k = b) : cDup sx sy sc a b = true := decide_eq_true h
theorem cDup_f {sx sy : Nat → Nat} {sc a b : Nat} (h : ¬ ∃ k, k < sc ∧ sx k = a ∧ sy k = b) : cDup sx sy sc a b = false := decide_eq_false h
/-- the numbers of a line of kind w from place i on: 0 and where they end and what they are, or the fault and its place -/
def numsF (f : Nat → Int32) (n w : Nat) (dup : Nat → Nat → Bool) : Nat → Nat → Nat → Nat → (Nat → Nat) → Nat × Nat × Nat × (Nat → Nat)
  | 0, _, i, _, v => (0, 0, i, v)
  | k + 1, j, i, fp, v =>
    if tK f n (tS f n i) = 2 then
      (if tV f n (tS f n i) < nLo w j ∨ mxN w < tV f n (tS f n i) then (2, tS f n i, 0, v)
      else if w = 6 ∧ j = 1 ∧ dup (v 0) (tV f n (tS f n i)) = true then (3, fp, 0, v)
      else numsF f n w dup k (j + 1) (tN f n (tS f n i)) (if j = 0 then tS f n i else fp) (upN v j (tV f n (tS f n i))))
    else (1, tS f n i, 0, v)
section
variable {f : Nat → Int32} {n w k j i fp s t x e : Nat} {dup : Nat → Nat → Bool} {v : Nat → Nat}
theorem num_0 : numsF f n w dup 0 j i fp v = (0, 0, i, v) := rfl
theorem num_bad (hs : s = tS f n i) (ht : t = tK f n s) (h : ¬ t = 2) : numsF f n w dup (k + 1) j i fp v = (1, s, 0, v) := by
  subst hs; subst ht
  show (if _ then _ else _) = _
  rw [if_neg h]
theorem num_bey (hs : s = tS f n i) (ht : t = tK f n s) (h : t = 2) (hx : x = tV f n s) (hb : x < nLo w j ∨ mxN w < x) : numsF f n w dup (k + 1) j i fp v = (2, s, 0, v) := by
  subst hs; subst ht; subst hx
  show (if _ then _ else _) = _
  rw [if_pos h, if_pos hb]
theorem num_dup (hs : s = tS f n i) (ht : t = tK f n s) (h : t = 2) (hx : x = tV f n s) (hb : ¬ (x < nLo w j ∨ mxN w < x)) (hw : w = 6) (hj : j = 1) (hd : dup (v 0) x = true) : numsF f n w dup (k + 1) j i fp v = (3, fp, 0, v) := by
  subst hs; subst ht; subst hx
  show (if _ then _ else _) = _
  rw [if_pos h, if_neg hb, if_pos ⟨hw, hj, hd⟩]
theorem num_go (hs : s = tS f n i) (ht : t = tK f n s) (h : t = 2) (hx : x = tV f n s) (he : e = tN f n s) (hb : ¬ (x < nLo w j ∨ mxN w < x)) (hd : ¬ (w = 6 ∧ j = 1 ∧ dup (v 0) x = true)) : numsF f n w dup (k + 1) j i fp v = numsF f n w dup k (j + 1) e (if j = 0 then s else fp) (upN v j x) := by
  subst hs; subst ht; subst hx; subst he
  show (if _ then _ else _) = _
  rw [if_pos h, if_neg hb, if_neg hd]
end
theorem tK_le {f : Nat → Int32} {n s : Nat} : tK f n s ≤ 4 := by
  unfold tK
  split
  · omega
  split
  · omega
  split
  · omega
  split <;> omega
theorem fv_up {fv g : Nat → Int32} {v : Nat → Nat} {t x : Nat} (h : ∀ j, j < t → fv j = nI (v j)) (e : g = upd fv t (nI x)) : ∀ j, j < t + 1 → g j = nI (upN v t x j) := by
  intro j hj
  subst e
  by_cases r : j = t
  · subst r; rw [pk_us, upN_s]
  · rw [pk_un r, upN_n r]; exact h j (by omega)
theorem up_le {v : Nat → Nat} {t x b : Nat} (h : ∀ j, v j ≤ b) (hx : x ≤ b) : ∀ j, upN v t x j ≤ b := by
  intro j
  by_cases r : j = t
  · subst r; rw [upN_s]; exact hx
  · rw [upN_n r]; exact h j
end PARSE2
section PARSE3
/-- what lines have told: kinds told, stairs, their places and men, the numbers -/
abbrev PSt := (Nat → Bool) × Nat × (Nat → Nat) × (Nat → Nat) × (Nat → Nat) × (Nat → Nat)
def bitS (q : Nat) : Int32 := (1 : Int32) <<< (nI (slN q) &&& 31)
def stepF (P : PSt) (w : Nat) (v : Nat → Nat) : PSt :=
  if w = 6 then (P.1, P.2.1 + 1, upN P.2.2.1 P.2.1 (v 0), upN P.2.2.2.1 P.2.1 (v 1), upN P.2.2.2.2.1 P.2.1 (v 2), P.2.2.2.2.2)
  else ((fun q => if q = w then true else P.1 q), P.2.1, P.2.2.1, P.2.2.2.1, P.2.2.2.2.1, (fun q => if slN w ≤ q ∧ q < slN w + nuN w then v (q - slN w) else P.2.2.2.2.2 q))
def semiF (f : Nat → Int32) (n w : Nat) (R : Nat × Nat × Nat × (Nat → Nat)) : Nat × Nat × Nat × Nat × (Nat → Nat) :=
  if R.1 = 0 then (if tK f n (tS f n R.2.2.1) = 3 then (0, 0, tN f n (tS f n R.2.2.1), w, R.2.2.2) else (1, tS f n R.2.2.1, 0, 0, fun _ => 0)) else (R.1, R.2.1, 0, 0, fun _ => 0)
/-- a line whose first token begins at s: 0, and where it ends, its kind and its numbers, or the fault and its place -/
def lineF (f : Nat → Int32) (n : Nat) (P : PSt) (s : Nat) : Nat × Nat × Nat × Nat × (Nat → Nat) :=
  if tK f n s = 1 ∧ wI f s (tN f n s) < 7 then
    (if wI f s (tN f n s) = 6 ∧ 4 ≤ P.2.1 then (2, s, 0, 0, fun _ => 0)
     else if P.1 (wI f s (tN f n s)) = true then (3, s, 0, 0, fun _ => 0)
     else semiF f n (wI f s (tN f n s)) (numsF f n (wI f s (tN f n s)) (cDup P.2.2.1 P.2.2.2.1 P.2.1) (nuN (wI f s (tN f n s))) 0 (tN f n s) (tN f n s) (fun _ => 0)))
  else (1, s, 0, 0, fun _ => 0)
def parF (f : Nat → Int32) (n : Nat) : Nat → Nat → Nat → PSt → Nat × Nat × Nat × PSt
  | 0, _, m, P => (1, 0, m, P)
  | k + 1, i, m, P =>
    if tK f n (tS f n i) = 0 then (0, 0, m, P)
    else if (lineF f n P (tS f n i)).1 = 0 then parF f n k (lineF f n P (tS f n i)).2.2.1 (m + 1) (stepF P (lineF f n P (tS f n i)).2.2.2.1 (lineF f n P (tS f n i)).2.2.2.2)
    else ((lineF f n P (tS f n i)).1, (lineF f n P (tS f n i)).2.1, m, P)
def PSt0 : PSt := ((fun _ => false), 0, (fun _ => 0), (fun _ => 0), (fun _ => 0), (fun q => ([100, 1, 0, 0, 1, 99, 1, 0] : List Nat).getD q 0))
section
variable {f : Nat → Int32} {n s e w : Nat} {P : PSt}
theorem line_bad (h : ¬ (tK f n s = 1 ∧ wI f s (tN f n s) < 7)) : lineF f n P s = (1, s, 0, 0, fun _ => 0) := if_neg h
theorem line_2 (h : tK f n s = 1 ∧ wI f s (tN f n s) < 7) (hw : wI f s (tN f n s) = 6) (hc : 4 ≤ P.2.1) : lineF f n P s = (2, s, 0, 0, fun _ => 0) := by
  unfold lineF; rw [if_pos h, if_pos ⟨hw, hc⟩]
theorem line_3 (h : tK f n s = 1 ∧ wI f s (tN f n s) < 7) (h2 : ¬ (wI f s (tN f n s) = 6 ∧ 4 ≤ P.2.1)) (ht : P.1 (wI f s (tN f n s)) = true) : lineF f n P s = (3, s, 0, 0, fun _ => 0) := by
  unfold lineF; rw [if_pos h, if_neg h2, if_pos ht]
theorem line_go (h : tK f n s = 1 ∧ wI f s (tN f n s) < 7) (h2 : ¬ (wI f s (tN f n s) = 6 ∧ 4 ≤ P.2.1)) (ht : ¬ P.1 (wI f s (tN f n s)) = true) : lineF f n P s = semiF f n (wI f s (tN f n s)) (numsF f n (wI f s (tN f n s)) (cDup P.2.2.1 P.2.2.2.1 P.2.1) (nuN (wI f s (tN f n s))) 0 (tN f n s) (tN f n s) (fun _ => 0)) := by
  unfold lineF; rw [if_pos h, if_neg h2, if_neg ht]
theorem semi_f {R : Nat × Nat × Nat × (Nat → Nat)} (h : ¬ R.1 = 0) : semiF f n w R = (R.1, R.2.1, 0, 0, fun _ => 0) := if_neg h
theorem semi_n {R : Nat × Nat × Nat × (Nat → Nat)} {i s2 t2 : Nat} (h : R.1 = 0) (hi : R.2.2.1 = i) (hs : s2 = tS f n i) (ht : t2 = tK f n s2) (h3 : ¬ t2 = 3) : semiF f n w R = (1, s2, 0, 0, fun _ => 0) := by
  subst hi; subst hs; subst ht
  unfold semiF; rw [if_pos h, if_neg h3]
theorem semi_y {R : Nat × Nat × Nat × (Nat → Nat)} {i s2 t2 e2 : Nat} (h : R.1 = 0) (hi : R.2.2.1 = i) (hs : s2 = tS f n i) (ht : t2 = tK f n s2) (he : e2 = tN f n s2) (h3 : t2 = 3) : semiF f n w R = (0, 0, e2, w, R.2.2.2) := by
  subst hi; subst hs; subst ht; subst he
  unfold semiF; rw [if_pos h, if_pos h3]
theorem par_0 {k i m : Nat} (hs : s = tS f n i) (ht : tK f n s = 0) : parF f n (k + 1) i m P = (0, 0, m, P) := by
  subst hs
  show (if _ then _ else _) = _
  rw [if_pos ht]
theorem par_f {k i m : Nat} (hs : s = tS f n i) (ht : ¬ tK f n s = 0) (h : ¬ (lineF f n P s).1 = 0) : parF f n (k + 1) i m P = ((lineF f n P s).1, (lineF f n P s).2.1, m, P) := by
  subst hs
  show (if _ then _ else _) = _
  rw [if_neg ht, if_neg h]
theorem par_go {k i m : Nat} (hs : s = tS f n i) (ht : ¬ tK f n s = 0) (h : (lineF f n P s).1 = 0) : parF f n (k + 1) i m P = parF f n k (lineF f n P s).2.2.1 (m + 1) (stepF P (lineF f n P s).2.2.2.1 (lineF f n P s).2.2.2.2) := by
  subst hs
  show (if _ then _ else _) = _
  rw [if_neg ht, if_pos h]
end
/-- the class's customs hold what the lines have told -/
def CR (P : PSt) (c1 c2 c3 c4 : Nat → Int32) (sc : Nat) (to : Int32) : Prop :=
  P.2.1 = sc ∧ sc ≤ 4 ∧ (∀ q, q < sc → c2 q = nI (P.2.2.1 q) ∧ c3 q = nI (P.2.2.2.1 q) ∧ P.2.2.1 q ≤ 1000 ∧ P.2.2.2.1 q ≤ 1000) ∧ (∀ q, q < sc → c4 q = nI (P.2.2.2.2.1 q)) ∧ (∀ q, q < 8 → c1 q = nI (P.2.2.2.2.2 q)) ∧ (∀ q, q < 7 → (P.1 q = true ↔ ¬ to &&& bitS q = 0))
theorem bit_or (x : Int32) (i q : Nat) (hi : i < 7) (hq : q < 7) : (¬ (x ||| bitS i) &&& bitS q = 0) ↔ (q = i ∨ ¬ x &&& bitS q = 0) := by
  have dist : ∀ a b c : Int32, (a ||| b) &&& c = (a &&& c) ||| (b &&& c) := by
    intro a b c
    apply Int32.toBitVec_inj.mp
    simp only [Int32.toBitVec_and, Int32.toBitVec_or]
    apply BitVec.eq_of_getLsbD_eq
    intro j _
    simp only [BitVec.getLsbD_and, BitVec.getLsbD_or]
    cases a.toBitVec.getLsbD j <;> cases b.toBitVec.getLsbD j <;> cases c.toBitVec.getLsbD j <;> rfl
  have or0 : ∀ a b : Int32, a ||| b = 0 → b = 0 := by
    intro a b h
    apply Int32.toBitVec_inj.mp
    have h2 := congrArg Int32.toBitVec h
    rw [Int32.toBitVec_or] at h2
    apply BitVec.eq_of_getLsbD_eq
    intro j hj
    have h3 := congrArg (fun z => BitVec.getLsbD z j) h2
    simp only [BitVec.getLsbD_or] at h3
    have h4 : (Int32.toBitVec 0).getLsbD j = false := by
      show (0#32).getLsbD j = false
      simp
    rw [h4] at h3 ⊢
    cases hb : b.toBitVec.getLsbD j
    · rfl
    · rw [hb] at h3
      simp at h3
  rw [dist]
  by_cases e : q = i
  · subst e
    have h1 : ¬ bitS q &&& bitS q = 0 := (by decide +kernel : ∀ q, q < 7 → ¬ bitS q &&& bitS q = 0) q hq
    exact ⟨fun _ => Or.inl rfl, fun _ h => h1 (or0 _ _ h)⟩
  · have h1 : bitS i &&& bitS q = 0 := (by decide +kernel : ∀ i, i < 7 → ∀ q, q < 7 → ¬ q = i → bitS i &&& bitS q = 0) i hi q hq e
    rw [h1]
    have h2 : (x &&& bitS q) ||| 0 = x &&& bitS q := by simp
    rw [h2]
    exact ⟨fun h => Or.inr h, fun h => h.resolve_left e⟩
/-- one line more -/
theorem CR_6 {P : PSt} {c1 c2 c3 c4 d2 d3 d4 fv : Nat → Int32} {sc : Nat} {to : Int32} {v : Nat → Nat} (h : CR P c1 c2 c3 c4 sc to) (hs : sc < 4) (hv : ∀ q, q < 3 → fv q = nI (v q)) (hb : ∀ q, v q ≤ 1000) (e2 : d2 = upd c2 sc (fv 0)) (e3 : d3 = upd c3 sc (fv 1)) (e4 : d4 = upd c4 sc (fv 2)) : CR (stepF P 6 v) c1 d2 d3 d4 (sc + 1) to := by
  obtain ⟨h1, h2, h3, h4, h5, h6⟩ := h
  have e : stepF P 6 v = (P.1, P.2.1 + 1, upN P.2.2.1 P.2.1 (v 0), upN P.2.2.2.1 P.2.1 (v 1), upN P.2.2.2.2.1 P.2.1 (v 2), P.2.2.2.2.2) := if_pos rfl
  rw [e]
  subst e2; subst e3; subst e4
  refine ⟨by show P.2.1 + 1 = _; omega, by omega, fun q hq => ?_, fun q hq => ?_, h5, h6⟩
  · show upd c2 sc (fv 0) q = nI (upN P.2.2.1 P.2.1 (v 0) q) ∧ upd c3 sc (fv 1) q = nI (upN P.2.2.2.1 P.2.1 (v 1) q) ∧ upN P.2.2.1 P.2.1 (v 0) q ≤ 1000 ∧ upN P.2.2.2.1 P.2.1 (v 1) q ≤ 1000
    rw [h1]
    by_cases r : q = sc
    · subst r
      rw [pk_us, pk_us, upN_s, upN_s]
      exact ⟨hv 0 (by omega), hv 1 (by omega), hb 0, hb 1⟩
    · rw [pk_un r, pk_un r, upN_n r, upN_n r]
      exact h3 q (by omega)
  · show upd c4 sc (fv 2) q = nI (upN P.2.2.2.2.1 P.2.1 (v 2) q)
    rw [h1]
    by_cases r : q = sc
    · subst r; rw [pk_us, upN_s]; exact hv 2 (by omega)
    · rw [pk_un r, upN_n r]; exact h4 q (by omega)
theorem CR_w {P : PSt} {c1 c2 c3 c4 d1 fv : Nat → Int32} {sc w : Nat} {to to1 : Int32} {v : Nat → Nat} (h : CR P c1 c2 c3 c4 sc to) (hw : w < 7) (h6 : ¬ w = 6) (hv : ∀ q, q < nuN w → fv q = nI (v q)) (et : to1 = to ||| bitS w) (e1 : ∀ q, d1 q = if slN w ≤ q ∧ q < slN w + nuN w then fv (q - slN w) else c1 q) : CR (stepF P w v) d1 c2 c3 c4 sc to1 := by
  obtain ⟨h1, h2, h3, h4, h5, h7⟩ := h
  have e : stepF P w v = ((fun q => if q = w then true else P.1 q), P.2.1, P.2.2.1, P.2.2.2.1, P.2.2.2.2.1, (fun q => if slN w ≤ q ∧ q < slN w + nuN w then v (q - slN w) else P.2.2.2.2.2 q)) := if_neg h6
  rw [e]
  subst et
  refine ⟨h1, h2, h3, h4, fun q hq => ?_, fun q hq => ?_⟩
  · rw [e1 q]
    show _ = nI (if _ then _ else _)
    by_cases r : slN w ≤ q ∧ q < slN w + nuN w
    · rw [if_pos r, if_pos r]; exact hv _ (by omega)
    · rw [if_neg r, if_neg r]; exact h5 q hq
  · show ((if q = w then true else P.1 q) = true) ↔ _
    rw [bit_or to w q hw hq]
    by_cases r : q = w
    · rw [if_pos r]; exact ⟨fun _ => Or.inl r, fun _ => rfl⟩
    · rw [if_neg r, h7 q hq]; exact ⟨fun x => Or.inr x, fun x => x.resolve_left r⟩
theorem tell_s {d1 g c1 fv : Nat → Int32} {a t : Nat} {x : Int32} (h : ∀ q, d1 q = if a ≤ q ∧ q < a + t then fv (q - a) else c1 q) (hx : x = fv t) (e : g = upd d1 (a + t) x) : ∀ q, g q = if a ≤ q ∧ q < a + (t + 1) then fv (q - a) else c1 q := by
  intro q
  subst e
  by_cases r : q = a + t
  · subst r
    rw [pk_us, if_pos (by omega), hx, show a + t - a = t by omega]
  · rw [pk_un r, h q]
    by_cases r2 : a ≤ q ∧ q < a + t
    · rw [if_pos r2, if_pos (by omega)]
    · rw [if_neg r2, if_neg (by omega)]
end PARSE3
theorem CR_tell {P : PSt} {c1 c2 c3 c4 d1 d2 d3 d4 fv : Nat → Int32} {sc sc1 i : Nat} {to to1 : Int32} {v : Nat → Nat} (h : CR P c1 c2 c3 c4 sc to) (hi : i < 7) (hv : ∀ q, q < nuN i → fv q = nI (v q)) (hb : ∀ q, v q ≤ 1000)
    (hp : (i = 6 ∧ sc1 = sc + 1 ∧ to1 = to ∧ d1 = c1 ∧ d2 = upd c2 sc (fv 0) ∧ d3 = upd c3 sc (fv 1) ∧ d4 = upd c4 sc (fv 2) ∧ sc < 4) ∨ (¬ i = 6 ∧ sc1 = sc ∧ d2 = c2 ∧ d3 = c3 ∧ d4 = c4 ∧ to1 = to ||| bitS i ∧ ∀ q, d1 q = if slN i ≤ q ∧ q < slN i + nuN i then fv (q - slN i) else c1 q)) : CR (stepF P i v) d1 d2 d3 d4 sc1 to1 := by
  rcases hp with ⟨rfl, rfl, rfl, rfl, e2, e3, e4, hs⟩ | ⟨h6, rfl, rfl, rfl, rfl, e1, e2⟩
  · exact CR_6 h hs hv hb e2 e3 e4
  · exact CR_w h hi h6 hv e1 e2
