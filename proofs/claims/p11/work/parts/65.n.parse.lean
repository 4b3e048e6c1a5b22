section PARSE
def adv (p : Nat → Bool) : Nat → Nat → Nat
  | 0, i => i
  | k + 1, i => if p i then adv p k (i + 1) else i
/-- the first place from i on, below n, where p doesn't hold; else n -/
def run (p : Nat → Bool) (n i : Nat) : Nat := adv p (n - i) i
theorem run_go {p : Nat → Bool} {n i : Nat} (h : i < n) (hp : p i = true) : run p n i = run p n (i + 1) := by
  unfold run
  rw [show n - i = (n - (i + 1)) + 1 by omega]
  show (if p i then _ else _) = _
  rw [if_pos hp]
theorem run_st {p : Nat → Bool} {n i : Nat} (h : n ≤ i ∨ p i = false) : run p n i = i := by
  unfold run
  rcases Nat.lt_or_ge i n with h1 | h1
  · rw [show n - i = (n - (i + 1)) + 1 by omega]
    show (if p i then _ else _) = _
    rw [if_neg (by rcases h with h | h; omega; rw [h]; decide)]
  · rw [show n - i = 0 by omega]
    rfl
theorem adv_le (p : Nat → Bool) : ∀ k i, i ≤ adv p k i ∧ adv p k i ≤ i + k := by
  intro k
  induction k with
  | zero => intro i; exact ⟨Nat.le_refl _, Nat.le_refl _⟩
  | succ k ih =>
    intro i
    show i ≤ (if p i then _ else _) ∧ (if p i then _ else _) ≤ _
    by_cases h : p i = true
    · rw [if_pos h]
      have := ih (i + 1)
      omega
    · rw [if_neg h]
      omega
theorem run_le {p : Nat → Bool} {n i : Nat} (h : i ≤ n) : i ≤ run p n i ∧ run p n i ≤ n := by
  have := adv_le p (n - i) i
  unfold run
  omega
theorem run_lt {p : Nat → Bool} {n i : Nat} (h : i < n) (hp : p i = true) : i < run p n i := by
  rw [run_go h hp]
  have := (run_le (p := p) (n := n) (i := i + 1) h).1
  omega
def cBl (f : Nat → Int32) (j : Nat) : Bool := decide (f j = 10 ∨ f j = 32)
def cLt (f : Nat → Int32) (j : Nat) : Bool := !decide (f j < 97 ∨ 122 < f j)
def cDg (f : Nat → Int32) (j : Nat) : Bool := !decide (f j < 48 ∨ 57 < f j)
theorem cBl_t {f : Nat → Int32} {j : Nat} (h : f j = 10 ∨ f j = 32) : cBl f j = true := decide_eq_true h
theorem cBl_f {f : Nat → Int32} {j : Nat} (h : ¬ (f j = 10 ∨ f j = 32)) : cBl f j = false := decide_eq_false h
theorem cLt_t {f : Nat → Int32} {j : Nat} (h : ¬ (f j < 97 ∨ 122 < f j)) : cLt f j = true := by unfold cLt; rw [decide_eq_false h]; rfl
theorem cLt_f {f : Nat → Int32} {j : Nat} (h : f j < 97 ∨ 122 < f j) : cLt f j = false := by unfold cLt; rw [decide_eq_true h]; rfl
theorem cDg_t {f : Nat → Int32} {j : Nat} (h : ¬ (f j < 48 ∨ 57 < f j)) : cDg f j = true := by unfold cDg; rw [decide_eq_false h]; rfl
theorem cDg_f {f : Nat → Int32} {j : Nat} (h : f j < 48 ∨ 57 < f j) : cDg f j = false := by unfold cDg; rw [decide_eq_true h]; rfl
def tS (f : Nat → Int32) (n i : Nat) : Nat := run (cBl f) n i
def tK (f : Nat → Int32) (n s : Nat) : Nat := if n ≤ s then 0 else if cLt f s then 1 else if cDg f s then 2 else if f s = 59 then 3 else 4
def tN (f : Nat → Int32) (n s : Nat) : Nat := if n ≤ s then s else if cLt f s then run (cLt f) n s else if cDg f s then run (cDg f) n s else s + 1
def dgt (v : Int32) : Nat := v.toNatClampNeg - 48
def sat (f : Nat → Int32) : Nat → Nat → Nat → Nat
  | 0, _, a => a
  | k + 1, i, a => sat f k (i + 1) (min 1000 (a * 10 + dgt (f i)))
def tV (f : Nat → Int32) (n s : Nat) : Nat := sat f (run (cDg f) n s - s) s 0
theorem sat_go {f : Nat → Int32} {E i a : Nat} (h : i < E) : sat f (E - i) i a = sat f (E - (i + 1)) (i + 1) (min 1000 (a * 10 + dgt (f i))) := by
  rw [show E - i = (E - (i + 1)) + 1 by omega]
  rfl
theorem sat_st {f : Nat → Int32} {E i a : Nat} (h : E ≤ i) : sat f (E - i) i a = a := by
  rw [show E - i = 0 by omega]
  rfl
theorem dgt_nI {d : Nat} (h : d ≤ 57) : dgt (nI d) = d - 48 := by
  unfold dgt
  rw [nI_clamp (by omega)]
theorem tS_le {f : Nat → Int32} {n i : Nat} (h : i ≤ n) : i ≤ tS f n i ∧ tS f n i ≤ n := run_le h
theorem tK_0 {f : Nat → Int32} {n s : Nat} (h : n ≤ s) : tK f n s = 0 := if_pos h
theorem tN_0 {f : Nat → Int32} {n s : Nat} (h : n ≤ s) : tN f n s = s := if_pos h
theorem tK_1 {f : Nat → Int32} {n s : Nat} (h : ¬ n ≤ s) (h1 : cLt f s = true) : tK f n s = 1 := by unfold tK; rw [if_neg h, if_pos h1]
theorem tN_1 {f : Nat → Int32} {n s : Nat} (h : ¬ n ≤ s) (h1 : cLt f s = true) : tN f n s = run (cLt f) n s := by unfold tN; rw [if_neg h, if_pos h1]
theorem tK_2 {f : Nat → Int32} {n s : Nat} (h : ¬ n ≤ s) (h1 : cLt f s = false) (h2 : cDg f s = true) : tK f n s = 2 := by unfold tK; rw [if_neg h, if_neg (by rw [h1]; decide), if_pos h2]
theorem tN_2 {f : Nat → Int32} {n s : Nat} (h : ¬ n ≤ s) (h1 : cLt f s = false) (h2 : cDg f s = true) : tN f n s = run (cDg f) n s := by unfold tN; rw [if_neg h, if_neg (by rw [h1]; decide), if_pos h2]
theorem tK_3 {f : Nat → Int32} {n s : Nat} (h : ¬ n ≤ s) (h1 : cLt f s = false) (h2 : cDg f s = false) (h3 : f s = 59) : tK f n s = 3 := by unfold tK; rw [if_neg h, if_neg (by rw [h1]; decide), if_neg (by rw [h2]; decide), if_pos h3]
theorem tK_4 {f : Nat → Int32} {n s : Nat} (h : ¬ n ≤ s) (h1 : cLt f s = false) (h2 : cDg f s = false) (h3 : ¬ f s = 59) : tK f n s = 4 := by unfold tK; rw [if_neg h, if_neg (by rw [h1]; decide), if_neg (by rw [h2]; decide), if_neg h3]
theorem tN_3 {f : Nat → Int32} {n s : Nat} (h : ¬ n ≤ s) (h1 : cLt f s = false) (h2 : cDg f s = false) : tN f n s = s + 1 := by unfold tN; rw [if_neg h, if_neg (by rw [h1]; decide), if_neg (by rw [h2]; decide)]
theorem tN_le {f : Nat → Int32} {n s : Nat} (h : s ≤ n) : s ≤ tN f n s ∧ tN f n s ≤ n := by
  unfold tN
  by_cases h0 : n ≤ s
  · rw [if_pos h0]; omega
  rw [if_neg h0]
  by_cases h1 : cLt f s = true
  · rw [if_pos h1]; exact run_le h
  rw [if_neg h1]
  by_cases h2 : cDg f s = true
  · rw [if_pos h2]; exact run_le h
  rw [if_neg h2]
  omega
theorem tN_lt {f : Nat → Int32} {n s : Nat} (h : s < n) : s < tN f n s := by
  unfold tN
  rw [if_neg (by omega)]
  by_cases h1 : cLt f s = true
  · rw [if_pos h1]; exact run_lt h h1
  rw [if_neg h1]
  by_cases h2 : cDg f s = true
  · rw [if_pos h2]; exact run_lt h h2
  rw [if_neg h2]
  omega
theorem sat_le (f : Nat → Int32) : ∀ k i a, a ≤ 1000 → sat f k i a ≤ 1000 := by
  intro k
  induction k with
  | zero => intro i a h; exact h
  | succ k ih =>
    intro i a h
    exact ih _ _ (Nat.min_le_left _ _)
theorem tV_le {f : Nat → Int32} {n s : Nat} : tV f n s ≤ 1000 := sat_le f _ _ _ (by decide)
/-- the word between a and b is the k-th -/
def wm (f : Nat → Int32) (a b k : Nat) : Prop := b - a = lenN k ∧ ∀ i, i < lenN k → f (a + i) = (stB.getD k []).getD i 0
def cWm (f : Nat → Int32) (a b k : Nat) : Bool := decide (b - a = lenN k ∧ ∀ i, i < lenN k → f (a + i) = (stB.getD k []).getD i 0)
/-- which word it is; 7 if none -/
def wI (f : Nat → Int32) (a b : Nat) : Nat := run (fun k => !cWm f a b k) 7 0
theorem cWm_t {f : Nat → Int32} {a b k : Nat} (h : wm f a b k) : cWm f a b k = true := decide_eq_true h
theorem cWm_f {f : Nat → Int32} {a b k : Nat} (h : ¬ wm f a b k) : cWm f a b k = false := decide_eq_false h
end PARSE
theorem min_nI {X : Nat} (h : X < 2 ^ 31) : (if nI X < (1000 : Int32) then nI X else (1000 : Int32)) = nI (min 1000 X) := by
  by_cases h1 : nI X < (1000 : Int32)
  · rw [if_pos h1]
    have : X < 1000 := (nI_ltI (b := 1000) h (by decide)).mp h1
    rw [Nat.min_eq_right (by omega)]
  · rw [if_neg h1]
    have : ¬ X < 1000 := fun q => h1 ((nI_ltI (b := 1000) h (by decide)).mpr q)
    rw [Nat.min_eq_left (by omega)]
    rfl
theorem chr7 : ∀ i, i < 7 → ∀ j, j < lenN i → ((((stB.getD i []).getD j 0) &&& 255).toUInt32 % 65536).toInt32 = (stB.getD i []).getD j 0 := by decide +kernel
theorem pre_s {f : Nat → Int32} {a k j : Nat} (h : ∀ q, q < j → f (a + q) = (stB.getD k []).getD q 0) (e : f (a + j) = (stB.getD k []).getD j 0) : ∀ q, q < j + 1 → f (a + q) = (stB.getD k []).getD q 0 := by
  intro q hq
  rcases (show q < j ∨ q = j by omega) with h1 | rfl
  · exact h q h1
  · exact e
section PARSE2
def leN (i : Nat) : Nat := ([1, 0, 0, 0, 1, 0, 0] : List Nat).getD i 0
def mxN (i : Nat) : Nat := ([999, 9, 9, 4, 99, 99, 9] : List Nat).getD i 0
theorem enLe_nI : ∀ i, i < 7 → enLe.getD i 0 = nI (leN i) := by decide +kernel
theorem enMo_nI : ∀ i, i < 7 → enMo.getD i 0 = nI (mxN i) := by decide +kernel
theorem leN_le : ∀ i, i < 7 → leN i ≤ 1 := by decide +kernel
theorem mxN_le : ∀ i, i < 7 → mxN i ≤ 999 := by decide +kernel
def nLo (w j : Nat) : Nat := if w = 6 ∧ j = 2 then 1 else leN w
def upN (v : Nat → Nat) (j x : Nat) : Nat → Nat := fun q => if q = j then x else v q
theorem upN_s {v : Nat → Nat} {j x : Nat} : upN v j x j = x := if_pos rfl
theorem upN_n {v : Nat → Nat} {j x q : Nat} (h : ¬ q = j) : upN v j x q = v q := if_neg h
def cDup (sx sy : Nat → Nat) (sc a b : Nat) : Bool := decide (∃ k, k < sc ∧ sx k = a ∧ sy k = b)
theorem cDup_t {sx sy : Nat → Nat} {sc a b : Nat} (h : ∃ k, k < sc ∧ sx k = a ∧ sy k = b) : cDup sx sy sc a b = true := decide_eq_true h
theorem cDup_f {sx sy : Nat → Nat} {sc a b : Nat} (h : ¬ ∃ k, k < sc ∧ sx k = a ∧ sy k = b) : cDup sx sy sc a b = false := decide_eq_false h
/-- the numbers of a line of kind w from place i on: 0 and where they end and what they are, or the fault and its place -/
def numsF (f : Nat → Int32) (n w : Nat) (dup : Nat → Nat → Bool) : Nat → Nat → Nat → Nat → (Nat → Nat) → Nat × Nat × Nat × (Nat → Nat)
  | 0, _, i, _, v => (0, 0, i, v)
  | k + 1, j, i, fp, v =>
    if tK f n (tS f n i) = 2 then
      (if tV f n (tS f n i) < nLo w j ∨ mxN w < tV f n (tS f n i) then (2, tS f n i, 0, v)
      else if w = 6 ∧ j = 1 ∧ dup (v 0) (tV f n (tS f n i)) = true then (3, fp, 0, v)
      else numsF f n w dup k (j + 1) (tN f n (tS f n i)) (if j = 0 then tS f n i else fp) (upN v j (tV f n (tS f n i))))
    else (1, tS f n i, 0, v)
section
variable {f : Nat → Int32} {n w k j i fp s t x e : Nat} {dup : Nat → Nat → Bool} {v : Nat → Nat}
theorem num_0 : numsF f n w dup 0 j i fp v = (0, 0, i, v) := rfl
theorem num_bad (hs : s = tS f n i) (ht : t = tK f n s) (h : ¬ t = 2) : numsF f n w dup (k + 1) j i fp v = (1, s, 0, v) := by
  subst hs; subst ht
  show (if _ then _ else _) = _
  rw [if_neg h]
theorem num_bey (hs : s = tS f n i) (ht : t = tK f n s) (h : t = 2) (hx : x = tV f n s) (hb : x < nLo w j ∨ mxN w < x) : numsF f n w dup (k + 1) j i fp v = (2, s, 0, v) := by
  subst hs; subst ht; subst hx
  show (if _ then _ else _) = _
  rw [if_pos h, if_pos hb]
theorem num_dup (hs : s = tS f n i) (ht : t = tK f n s) (h : t = 2) (hx : x = tV f n s) (hb : ¬ (x < nLo w j ∨ mxN w < x)) (hw : w = 6) (hj : j = 1) (hd : dup (v 0) x = true) : numsF f n w dup (k + 1) j i fp v = (3, fp, 0, v) := by
  subst hs; subst ht; subst hx
  show (if _ then _ else _) = _
  rw [if_pos h, if_neg hb, if_pos ⟨hw, hj, hd⟩]
theorem num_go (hs : s = tS f n i) (ht : t = tK f n s) (h : t = 2) (hx : x = tV f n s) (he : e = tN f n s) (hb : ¬ (x < nLo w j ∨ mxN w < x)) (hd : ¬ (w = 6 ∧ j = 1 ∧ dup (v 0) x = true)) : numsF f n w dup (k + 1) j i fp v = numsF f n w dup k (j + 1) e (if j = 0 then s else fp) (upN v j x) := by
  subst hs; subst ht; subst hx; subst he
  show (if _ then _ else _) = _
  rw [if_pos h, if_neg hb, if_neg hd]
end
theorem tK_le {f : Nat → Int32} {n s : Nat} : tK f n s ≤ 4 := by
  unfold tK
  split
  · omega
  split
  · omega
  split
  · omega
  split <;> omega
theorem fv_up {fv g : Nat → Int32} {v : Nat → Nat} {t x : Nat} (h : ∀ j, j < t → fv j = nI (v j)) (e : g = upd fv t (nI x)) : ∀ j, j < t + 1 → g j = nI (upN v t x j) := by
  intro j hj
  subst e
  by_cases r : j = t
  · subst r; rw [pk_us, upN_s]
  · rw [pk_un r, upN_n r]; exact h j (by omega)
theorem up_le {v : Nat → Nat} {t x b : Nat} (h : ∀ j, v j ≤ b) (hx : x ≤ b) : ∀ j, upN v t x j ≤ b := by
  intro j
  by_cases r : j = t
  · subst r; rw [upN_s]; exact hx
  · rw [upN_n r]; exact h j
end PARSE2
section PARSE3
/-- what lines have told: kinds told, stairs, their places and men, the numbers -/
abbrev PSt := (Nat → Bool) × Nat × (Nat → Nat) × (Nat → Nat) × (Nat → Nat) × (Nat → Nat)
def bitS (q : Nat) : Int32 := (1 : Int32) <<< (nI (slN q) &&& 31)
def stepF (P : PSt) (w : Nat) (v : Nat → Nat) : PSt :=
  if w = 6 then (P.1, P.2.1 + 1, upN P.2.2.1 P.2.1 (v 0), upN P.2.2.2.1 P.2.1 (v 1), upN P.2.2.2.2.1 P.2.1 (v 2), P.2.2.2.2.2)
  else ((fun q => if q = w then true else P.1 q), P.2.1, P.2.2.1, P.2.2.2.1, P.2.2.2.2.1, (fun q => if slN w ≤ q ∧ q < slN w + nuN w then v (q - slN w) else P.2.2.2.2.2 q))
def semiF (f : Nat → Int32) (n w : Nat) (R : Nat × Nat × Nat × (Nat → Nat)) : Nat × Nat × Nat × Nat × (Nat → Nat) :=
  if R.1 = 0 then (if tK f n (tS f n R.2.2.1) = 3 then (0, 0, tN f n (tS f n R.2.2.1), w, R.2.2.2) else (1, tS f n R.2.2.1, 0, 0, fun _ => 0)) else (R.1, R.2.1, 0, 0, fun _ => 0)
/-- a line whose first token begins at s: 0, and where it ends, its kind and its numbers, or the fault and its place -/
def lineF (f : Nat → Int32) (n : Nat) (P : PSt) (s : Nat) : Nat × Nat × Nat × Nat × (Nat → Nat) :=
  if tK f n s = 1 ∧ wI f s (tN f n s) < 7 then
    (if wI f s (tN f n s) = 6 ∧ 4 ≤ P.2.1 then (2, s, 0, 0, fun _ => 0)
     else if P.1 (wI f s (tN f n s)) = true then (3, s, 0, 0, fun _ => 0)
     else semiF f n (wI f s (tN f n s)) (numsF f n (wI f s (tN f n s)) (cDup P.2.2.1 P.2.2.2.1 P.2.1) (nuN (wI f s (tN f n s))) 0 (tN f n s) (tN f n s) (fun _ => 0)))
  else (1, s, 0, 0, fun _ => 0)
def parF (f : Nat → Int32) (n : Nat) : Nat → Nat → Nat → PSt → Nat × Nat × Nat × PSt
  | 0, _, m, P => (1, 0, m, P)
  | k + 1, i, m, P =>
    if tK f n (tS f n i) = 0 then (0, 0, m, P)
    else if (lineF f n P (tS f n i)).1 = 0 then parF f n k (lineF f n P (tS f n i)).2.2.1 (m + 1) (stepF P (lineF f n P (tS f n i)).2.2.2.1 (lineF f n P (tS f n i)).2.2.2.2)
    else ((lineF f n P (tS f n i)).1, (lineF f n P (tS f n i)).2.1, m, P)
def PSt0 : PSt := ((fun _ => false), 0, (fun _ => 0), (fun _ => 0), (fun _ => 0), (fun q => ([100, 1, 0, 0, 1, 99, 1, 0] : List Nat).getD q 0))
section
variable {f : Nat → Int32} {n s e w : Nat} {P : PSt}
theorem line_bad (h : ¬ (tK f n s = 1 ∧ wI f s (tN f n s) < 7)) : lineF f n P s = (1, s, 0, 0, fun _ => 0) := if_neg h
theorem line_2 (h : tK f n s = 1 ∧ wI f s (tN f n s) < 7) (hw : wI f s (tN f n s) = 6) (hc : 4 ≤ P.2.1) : lineF f n P s = (2, s, 0, 0, fun _ => 0) := by
  unfold lineF; rw [if_pos h, if_pos ⟨hw, hc⟩]
theorem line_3 (h : tK f n s = 1 ∧ wI f s (tN f n s) < 7) (h2 : ¬ (wI f s (tN f n s) = 6 ∧ 4 ≤ P.2.1)) (ht : P.1 (wI f s (tN f n s)) = true) : lineF f n P s = (3, s, 0, 0, fun _ => 0) := by
  unfold lineF; rw [if_pos h, if_neg h2, if_pos ht]
theorem line_go (h : tK f n s = 1 ∧ wI f s (tN f n s) < 7) (h2 : ¬ (wI f s (tN f n s) = 6 ∧ 4 ≤ P.2.1)) (ht : ¬ P.1 (wI f s (tN f n s)) = true) : lineF f n P s = semiF f n (wI f s (tN f n s)) (numsF f n (wI f s (tN f n s)) (cDup P.2.2.1 P.2.2.2.1 P.2.1) (nuN (wI f s (tN f n s))) 0 (tN f n s) (tN f n s) (fun _ => 0)) := by
  unfold lineF; rw [if_pos h, if_neg h2, if_neg ht]
theorem semi_f {R : Nat × Nat × Nat × (Nat → Nat)} (h : ¬ R.1 = 0) : semiF f n w R = (R.1, R.2.1, 0, 0, fun _ => 0) := if_neg h
theorem semi_n {R : Nat × Nat × Nat × (Nat → Nat)} {i s2 t2 : Nat} (h : R.1 = 0) (hi : R.2.2.1 = i) (hs : s2 = tS f n i) (ht : t2 = tK f n s2) (h3 : ¬ t2 = 3) : semiF f n w R = (1, s2, 0, 0, fun _ => 0) := by
  subst hi; subst hs; subst ht
  unfold semiF; rw [if_pos h, if_neg h3]
theorem semi_y {R : Nat × Nat × Nat × (Nat → Nat)} {i s2 t2 e2 : Nat} (h : R.1 = 0) (hi : R.2.2.1 = i) (hs : s2 = tS f n i) (ht : t2 = tK f n s2) (he : e2 = tN f n s2) (h3 : t2 = 3) : semiF f n w R = (0, 0, e2, w, R.2.2.2) := by
  subst hi; subst hs; subst ht; subst he
  unfold semiF; rw [if_pos h, if_pos h3]
theorem par_0 {k i m : Nat} (hs : s = tS f n i) (ht : tK f n s = 0) : parF f n (k + 1) i m P = (0, 0, m, P) := by
  subst hs
  show (if _ then _ else _) = _
  rw [if_pos ht]
theorem par_f {k i m : Nat} (hs : s = tS f n i) (ht : ¬ tK f n s = 0) (h : ¬ (lineF f n P s).1 = 0) : parF f n (k + 1) i m P = ((lineF f n P s).1, (lineF f n P s).2.1, m, P) := by
  subst hs
  show (if _ then _ else _) = _
  rw [if_neg ht, if_neg h]
theorem par_go {k i m : Nat} (hs : s = tS f n i) (ht : ¬ tK f n s = 0) (h : (lineF f n P s).1 = 0) : parF f n (k + 1) i m P = parF f n k (lineF f n P s).2.2.1 (m + 1) (stepF P (lineF f n P s).2.2.2.1 (lineF f n P s).2.2.2.2) := by
  subst hs
  show (if _ then _ else _) = _
  rw [if_neg ht, if_pos h]
end
/-- the class's customs hold what the lines have told -/
def CR (P : PSt) (c1 c2 c3 c4 : Nat → Int32) (sc : Nat) (to : Int32) : Prop :=
  P.2.1 = sc ∧ sc ≤ 4 ∧ (∀ q, q < sc → c2 q = nI (P.2.2.1 q) ∧ c3 q = nI (P.2.2.2.1 q) ∧ P.2.2.1 q ≤ 1000 ∧ P.2.2.2.1 q ≤ 1000) ∧ (∀ q, q < sc → c4 q = nI (P.2.2.2.2.1 q)) ∧ (∀ q, q < 8 → c1 q = nI (P.2.2.2.2.2 q)) ∧ (∀ q, q < 7 → (P.1 q = true ↔ ¬ to &&& bitS q = 0))
theorem bit_or (x : Int32) (i q : Nat) (hi : i < 7) (hq : q < 7) : (¬ (x ||| bitS i) &&& bitS q = 0) ↔ (q = i ∨ ¬ x &&& bitS q = 0) := by
  have dist : ∀ a b c : Int32, (a ||| b) &&& c = (a &&& c) ||| (b &&& c) := by
    intro a b c
    apply Int32.toBitVec_inj.mp
    simp only [Int32.toBitVec_and, Int32.toBitVec_or]
    apply BitVec.eq_of_getLsbD_eq
    intro j _
    simp only [BitVec.getLsbD_and, BitVec.getLsbD_or]
    cases a.toBitVec.getLsbD j <;> cases b.toBitVec.getLsbD j <;> cases c.toBitVec.getLsbD j <;> rfl
  have or0 : ∀ a b : Int32, a ||| b = 0 → b = 0 := by
    intro a b h
    apply Int32.toBitVec_inj.mp
    have h2 := congrArg Int32.toBitVec h
    rw [Int32.toBitVec_or] at h2
    apply BitVec.eq_of_getLsbD_eq
    intro j hj
    have h3 := congrArg (fun z => BitVec.getLsbD z j) h2
    simp only [BitVec.getLsbD_or] at h3
    have h4 : (Int32.toBitVec 0).getLsbD j = false := by
      show (0#32).getLsbD j = false
      simp
    rw [h4] at h3 ⊢
    cases hb : b.toBitVec.getLsbD j
    · rfl
    · rw [hb] at h3
      simp at h3
  rw [dist]
  by_cases e : q = i
  · subst e
    have h1 : ¬ bitS q &&& bitS q = 0 := (by decide +kernel : ∀ q, q < 7 → ¬ bitS q &&& bitS q = 0) q hq
    exact ⟨fun _ => Or.inl rfl, fun _ h => h1 (or0 _ _ h)⟩
  · have h1 : bitS i &&& bitS q = 0 := (by decide +kernel : ∀ i, i < 7 → ∀ q, q < 7 → ¬ q = i → bitS i &&& bitS q = 0) i hi q hq e
    rw [h1]
    have h2 : (x &&& bitS q) ||| 0 = x &&& bitS q := by simp
    rw [h2]
    exact ⟨fun h => Or.inr h, fun h => h.resolve_left e⟩
/-- one line more -/
theorem CR_6 {P : PSt} {c1 c2 c3 c4 d2 d3 d4 fv : Nat → Int32} {sc : Nat} {to : Int32} {v : Nat → Nat} (h : CR P c1 c2 c3 c4 sc to) (hs : sc < 4) (hv : ∀ q, q < 3 → fv q = nI (v q)) (hb : ∀ q, v q ≤ 1000) (e2 : d2 = upd c2 sc (fv 0)) (e3 : d3 = upd c3 sc (fv 1)) (e4 : d4 = upd c4 sc (fv 2)) : CR (stepF P 6 v) c1 d2 d3 d4 (sc + 1) to := by
  obtain ⟨h1, h2, h3, h4, h5, h6⟩ := h
  have e : stepF P 6 v = (P.1, P.2.1 + 1, upN P.2.2.1 P.2.1 (v 0), upN P.2.2.2.1 P.2.1 (v 1), upN P.2.2.2.2.1 P.2.1 (v 2), P.2.2.2.2.2) := if_pos rfl
  rw [e]
  subst e2; subst e3; subst e4
  refine ⟨by show P.2.1 + 1 = _; omega, by omega, fun q hq => ?_, fun q hq => ?_, h5, h6⟩
  · show upd c2 sc (fv 0) q = nI (upN P.2.2.1 P.2.1 (v 0) q) ∧ upd c3 sc (fv 1) q = nI (upN P.2.2.2.1 P.2.1 (v 1) q) ∧ upN P.2.2.1 P.2.1 (v 0) q ≤ 1000 ∧ upN P.2.2.2.1 P.2.1 (v 1) q ≤ 1000
    rw [h1]
    by_cases r : q = sc
    · subst r
      rw [pk_us, pk_us, upN_s, upN_s]
      exact ⟨hv 0 (by omega), hv 1 (by omega), hb 0, hb 1⟩
    · rw [pk_un r, pk_un r, upN_n r, upN_n r]
      exact h3 q (by omega)
  · show upd c4 sc (fv 2) q = nI (upN P.2.2.2.2.1 P.2.1 (v 2) q)
    rw [h1]
    by_cases r : q = sc
    · subst r; rw [pk_us, upN_s]; exact hv 2 (by omega)
    · rw [pk_un r, upN_n r]; exact h4 q (by omega)
theorem CR_w {P : PSt} {c1 c2 c3 c4 d1 fv : Nat → Int32} {sc w : Nat} {to to1 : Int32} {v : Nat → Nat} (h : CR P c1 c2 c3 c4 sc to) (hw : w < 7) (h6 : ¬ w = 6) (hv : ∀ q, q < nuN w → fv q = nI (v q)) (et : to1 = to ||| bitS w) (e1 : ∀ q, d1 q = if slN w ≤ q ∧ q < slN w + nuN w then fv (q - slN w) else c1 q) : CR (stepF P w v) d1 c2 c3 c4 sc to1 := by
  obtain ⟨h1, h2, h3, h4, h5, h7⟩ := h
  have e : stepF P w v = ((fun q => if q = w then true else P.1 q), P.2.1, P.2.2.1, P.2.2.2.1, P.2.2.2.2.1, (fun q => if slN w ≤ q ∧ q < slN w + nuN w then v (q - slN w) else P.2.2.2.2.2 q)) := if_neg h6
  rw [e]
  subst et
  refine ⟨h1, h2, h3, h4, fun q hq => ?_, fun q hq => ?_⟩
  · rw [e1 q]
    show _ = nI (if _ then _ else _)
    by_cases r : slN w ≤ q ∧ q < slN w + nuN w
    · rw [if_pos r, if_pos r]; exact hv _ (by omega)
    · rw [if_neg r, if_neg r]; exact h5 q hq
  · show ((if q = w then true else P.1 q) = true) ↔ _
    rw [bit_or to w q hw hq]
    by_cases r : q = w
    · rw [if_pos r]; exact ⟨fun _ => Or.inl r, fun _ => rfl⟩
    · rw [if_neg r, h7 q hq]; exact ⟨fun x => Or.inr x, fun x => x.resolve_left r⟩
theorem tell_s {d1 g c1 fv : Nat → Int32} {a t : Nat} {x : Int32} (h : ∀ q, d1 q = if a ≤ q ∧ q < a + t then fv (q - a) else c1 q) (hx : x = fv t) (e : g = upd d1 (a + t) x) : ∀ q, g q = if a ≤ q ∧ q < a + (t + 1) then fv (q - a) else c1 q := by
  intro q
  subst e
  by_cases r : q = a + t
  · subst r
    rw [pk_us, if_pos (by omega), hx, show a + t - a = t by omega]
  · rw [pk_un r, h q]
    by_cases r2 : a ≤ q ∧ q < a + t
    · rw [if_pos r2, if_pos (by omega)]
    · rw [if_neg r2, if_neg (by omega)]
end PARSE3
theorem CR_tell {P : PSt} {c1 c2 c3 c4 d1 d2 d3 d4 fv : Nat → Int32} {sc sc1 i : Nat} {to to1 : Int32} {v : Nat → Nat} (h : CR P c1 c2 c3 c4 sc to) (hi : i < 7) (hv : ∀ q, q < nuN i → fv q = nI (v q)) (hb : ∀ q, v q ≤ 1000)
    (hp : (i = 6 ∧ sc1 = sc + 1 ∧ to1 = to ∧ d1 = c1 ∧ d2 = upd c2 sc (fv 0) ∧ d3 = upd c3 sc (fv 1) ∧ d4 = upd c4 sc (fv 2) ∧ sc < 4) ∨ (¬ i = 6 ∧ sc1 = sc ∧ d2 = c2 ∧ d3 = c3 ∧ d4 = c4 ∧ to1 = to ||| bitS i ∧ ∀ q, d1 q = if slN i ≤ q ∧ q < slN i + nuN i then fv (q - slN i) else c1 q)) : CR (stepF P i v) d1 d2 d3 d4 sc1 to1 := by
  rcases hp with ⟨rfl, rfl, rfl, rfl, e2, e3, e4, hs⟩ | ⟨h6, rfl, rfl, rfl, rfl, e1, e2⟩
  · exact CR_6 h hs hv hb e2 e3 e4
  · exact CR_w h hi h6 hv e1 e2
section PARSE4
theorem numsF_ge {f : Nat → Int32} {n w : Nat} {dup : Nat → Nat → Bool} : ∀ k j i fp v, i ≤ n → (numsF f n w dup k j i fp v).1 = 0 → i ≤ (numsF f n w dup k j i fp v).2.2.1 ∧ (numsF f n w dup k j i fp v).2.2.1 ≤ n := by
  intro k
  induction k with
  | zero => intro j i fp v h _; exact ⟨Nat.le_refl _, h⟩
  | succ k ih =>
    intro j i fp v h h0
    have hs := tS_le (f := f) h
    have he := tN_le (f := f) hs.2
    by_cases h2 : tK f n (tS f n i) = 2
    · by_cases hb : tV f n (tS f n i) < nLo w j ∨ mxN w < tV f n (tS f n i)
      · rw [num_bey rfl rfl h2 rfl hb] at h0
        exact absurd h0 (Nat.succ_ne_zero _)
      · by_cases hd : w = 6 ∧ j = 1 ∧ dup (v 0) (tV f n (tS f n i)) = true
        · rw [num_dup rfl rfl h2 rfl hb hd.1 hd.2.1 hd.2.2] at h0
          exact absurd h0 (Nat.succ_ne_zero _)
        · rw [num_go rfl rfl h2 rfl rfl hb hd] at h0 ⊢
          have := ih (j + 1) _ (if j = 0 then tS f n i else fp) (upN v j (tV f n (tS f n i))) he.2 h0
          omega
    · rw [num_bad rfl rfl h2] at h0
      exact absurd h0 (Nat.succ_ne_zero _)
/-- the token at s as the reference tells it -/
def TKM (f : Nat → Int32) (n s : Nat) (kd wh : Int32) : Prop :=
  (kd = 0 ∧ tK f n s = 0) ∨ (kd = 1 ∧ tK f n s = 1 ∧ wI f s (tN f n s) < 7 ∧ wh = nI (wI f s (tN f n s))) ∨ (kd = 2 ∧ tK f n s = 2 ∧ ∃ mv : Nat, mv ≤ 100000 ∧ wh = nI mv ∧ min 1000 mv = tV f n s) ∨ (kd = 3 ∧ tK f n s = 3) ∨ (kd = 4 ∧ (tK f n s = 4 ∨ (tK f n s = 1 ∧ ¬ wI f s (tN f n s) < 7)))
/-- the token behind place i is taken -/
def LA (f : Nat → Int32) (n i nx : Nat) (kd wh pl : Int32) : Prop := pl = nI (tS f n i) ∧ nx = tN f n (tS f n i) ∧ TKM f n (tS f n i) kd wh
section
variable {f : Nat → Int32} {n i nx s : Nat} {kd wh pl : Int32}
theorem LA_le (h : LA f n i nx kd wh pl) (hi : i ≤ n) : i ≤ nx ∧ nx ≤ n := by
  have hs := tS_le (f := f) hi
  have he := tN_le (f := f) hs.2
  rw [h.2.1]
  omega
theorem LA_0 (h : LA f n i nx 0 wh pl) : tK f n (tS f n i) = 0 := by
  rcases h.2.2 with ⟨_, h⟩ | ⟨h, _⟩ | ⟨h, _⟩ | ⟨h, _⟩ | ⟨h, _⟩
  · exact h
  all_goals exact absurd h (by decide)
theorem LA_n0 (h : LA f n i nx kd wh pl) (h0 : ¬ kd = 0) : ¬ tK f n (tS f n i) = 0 := by
  intro q
  rcases h.2.2 with ⟨h, _⟩ | ⟨_, h, _⟩ | ⟨_, h, _⟩ | ⟨_, h⟩ | ⟨_, h | ⟨h, _⟩⟩
  · exact h0 h
  all_goals (rw [h] at q; exact absurd q (by decide))
theorem LA_2 (h : LA f n i nx kd wh pl) (h2 : kd = 2) : tK f n (tS f n i) = 2 ∧ ∃ mv : Nat, mv ≤ 100000 ∧ wh = nI mv ∧ min 1000 mv = tV f n (tS f n i) := by
  subst h2
  rcases h.2.2 with ⟨h, _⟩ | ⟨h, _⟩ | ⟨_, h⟩ | ⟨h, _⟩ | ⟨h, _⟩
  · exact absurd h (by decide)
  · exact absurd h (by decide)
  · exact h
  all_goals exact absurd h (by decide)
theorem LA_n2 (h : LA f n i nx kd wh pl) (h2 : ¬ kd = 2) : ¬ tK f n (tS f n i) = 2 := by
  intro q
  rcases h.2.2 with ⟨_, h⟩ | ⟨_, h, _⟩ | ⟨h, _⟩ | ⟨_, h⟩ | ⟨_, h | ⟨h, _⟩⟩
  · rw [h] at q; exact absurd q (by decide)
  · rw [h] at q; exact absurd q (by decide)
  · exact h2 h
  all_goals (rw [h] at q; exact absurd q (by decide))
theorem LA_3 (h : LA f n i nx kd wh pl) (h3 : kd = 3) : tK f n (tS f n i) = 3 := by
  subst h3
  rcases h.2.2 with ⟨h, _⟩ | ⟨h, _⟩ | ⟨h, _⟩ | ⟨_, h⟩ | ⟨h, _⟩
  · exact absurd h (by decide)
  · exact absurd h (by decide)
  · exact absurd h (by decide)
  · exact h
  · exact absurd h (by decide)
theorem LA_n3 (h : LA f n i nx kd wh pl) (h3 : ¬ kd = 3) : ¬ tK f n (tS f n i) = 3 := by
  intro q
  rcases h.2.2 with ⟨_, h⟩ | ⟨_, h, _⟩ | ⟨_, h, _⟩ | ⟨h, _⟩ | ⟨_, h | ⟨h, _⟩⟩
  · rw [h] at q; exact absurd q (by decide)
  · rw [h] at q; exact absurd q (by decide)
  · rw [h] at q; exact absurd q (by decide)
  · exact h3 h
  all_goals (rw [h] at q; exact absurd q (by decide))
theorem LA_1 (h : LA f n i nx kd wh pl) (h1 : kd = 1) : tK f n (tS f n i) = 1 ∧ wI f (tS f n i) (tN f n (tS f n i)) < 7 ∧ wh = nI (wI f (tS f n i) (tN f n (tS f n i))) := by
  subst h1
  rcases h.2.2 with ⟨h, _⟩ | ⟨_, h⟩ | ⟨h, _⟩ | ⟨h, _⟩ | ⟨h, _⟩
  · exact absurd h (by decide)
  · exact h
  all_goals exact absurd h (by decide)
theorem LA_n1 (h : LA f n i nx kd wh pl) (h1 : ¬ kd = 1) : ¬ (tK f n (tS f n i) = 1 ∧ wI f (tS f n i) (tN f n (tS f n i)) < 7) := by
  rintro ⟨q, q2⟩
  rcases h.2.2 with ⟨_, h⟩ | ⟨h, _⟩ | ⟨_, h, _⟩ | ⟨_, h⟩ | ⟨_, h | ⟨_, h⟩⟩
  · rw [h] at q; exact absurd q (by decide)
  · exact h1 h
  · rw [h] at q; exact absurd q (by decide)
  · rw [h] at q; exact absurd q (by decide)
  · rw [h] at q; exact absurd q (by decide)
  · exact h q2
theorem LA_lt (h : LA f n i nx kd wh pl) (hi : i ≤ n) (h0 : ¬ kd = 0) : i < nx := by
  have hs := tS_le (f := f) hi
  have h1 : tS f n i < n := Nat.lt_of_not_le (fun q => LA_n0 h h0 (tK_0 q))
  have := tN_lt (f := f) h1
  rw [h.2.1]
  omega
theorem te_l (h : n ≤ s ∨ f s < 97 ∨ 122 < f s) : n ≤ s ∨ cLt f s = false := h.imp id (fun q => cLt_f q)
theorem te_d (h : n ≤ s ∨ f s < 48 ∨ 57 < f s) : n ≤ s ∨ cDg f s = false := h.imp id (fun q => cDg_f q)
theorem tn_l (h : ¬ (n ≤ s ∨ f s < 97 ∨ 122 < f s)) : cLt f s = true := cLt_t (fun q => h (Or.inr q))
theorem tn_d (h : ¬ (n ≤ s ∨ f s < 48 ∨ 57 < f s)) : cDg f s = true := cDg_t (fun q => h (Or.inr q))
end
theorem wln_len : ∀ k, k < 7 → wln k = lenN k := by decide +kernel
theorem wF_stB : ∀ k, k < 7 → ∀ i, i < wln k → wF (wst k + i) = (stB.getD k []).getD i 0 := by decide +kernel
theorem wm_of {f : Nat → Int32} {a b k : Nat} (hk : k < 7) (h1 : wln k = b - a) (h2 : ∀ q, q < wln k → f (a + q) = (stB.getD k []).getD q 0) : wm f a b k := by
  rw [wln_len k hk] at h1 h2
  exact ⟨h1.symm, h2⟩
theorem wm_len {f : Nat → Int32} {a b k : Nat} (hk : k < 7) (h : wm f a b k) : wln k = b - a := by
  rw [wln_len k hk]
  exact h.1.symm
theorem wm_at {f : Nat → Int32} {a b k i : Nat} (hk : k < 7) (h : wm f a b k) (hi : i < wln k) : wF (wst k + i) = f (a + i) := by
  rw [wF_stB k hk i hi]
  rw [wln_len k hk] at hi
  exact (h.2 i hi).symm
/-- what the reference keeps of the lines -/
def MR (P : PSt) (rs : Nat) (fr fs ft : Nat → Int32) : Prop :=
  P.2.1 = rs ∧ rs ≤ 4 ∧ (∀ q, q < rs → fs (12 + 2 * q) = nI (10 * P.2.2.2.1 q + P.2.2.1 q) ∧ P.2.2.1 q ≤ 9 ∧ P.2.2.2.1 q ≤ 9) ∧ (∀ q, q < rs → fs (13 + 2 * q) = nI (P.2.2.2.2.1 q)) ∧ (∀ q, q < 8 → fr q = nI (P.2.2.2.2.2 q)) ∧ (∀ q, q < 7 → ft q = if P.1 q = true then 1 else 0) ∧ P.1 6 = false
theorem MR_w {P : PSt} {rs w : Nat} {fr fs ft gr gt : Nat → Int32} {v : Nat → Nat} (h : MR P rs fr fs ft) (h6 : w < 6) (et : gt = upd ft w 1) (er : ∀ q, gr q = if slN w ≤ q ∧ q < slN w + nuN w then nI (v (q - slN w)) else fr q) : MR (stepF P w v) rs gr fs gt := by
  obtain ⟨h1, h2, h3, h4, h5, h7, h8⟩ := h
  have e : stepF P w v = ((fun q => if q = w then true else P.1 q), P.2.1, P.2.2.1, P.2.2.2.1, P.2.2.2.2.1, (fun q => if slN w ≤ q ∧ q < slN w + nuN w then v (q - slN w) else P.2.2.2.2.2 q)) := if_neg (by omega)
  rw [e]
  subst et
  refine ⟨h1, h2, h3, h4, fun q hq => ?_, fun q hq => ?_, ?_⟩
  · rw [er q]
    show _ = nI (if _ then _ else _)
    by_cases r : slN w ≤ q ∧ q < slN w + nuN w
    · rw [if_pos r, if_pos r]
    · rw [if_neg r, if_neg r]; exact h5 q hq
  · show _ = if (if q = w then true else P.1 q) = true then 1 else 0
    by_cases r : q = w
    · subst r; rw [pk_us, if_pos (if_pos rfl)]
    · rw [pk_un r, if_neg r]; exact h7 q hq
  · show (if 6 = w then true else P.1 6) = false
    rw [if_neg (by omega)]; exact h8
theorem MR_6 {P : PSt} {rs : Nat} {fr fs g1 g2 ft : Nat → Int32} {v : Nat → Nat} (h : MR P rs fr fs ft) (h4 : rs < 4) (hx : v 0 ≤ 9) (hy : v 1 ≤ 9) (e1 : g1 = upd fs (12 + 2 * rs) (nI (10 * v 1 + v 0))) (e2 : g2 = upd g1 (13 + 2 * rs) (nI (v 2))) : MR (stepF P 6 v) (rs + 1) fr g2 ft := by
  obtain ⟨h1, h2, h3, h4', h5, h7, h8⟩ := h
  have e : stepF P 6 v = (P.1, P.2.1 + 1, upN P.2.2.1 P.2.1 (v 0), upN P.2.2.2.1 P.2.1 (v 1), upN P.2.2.2.2.1 P.2.1 (v 2), P.2.2.2.2.2) := if_pos rfl
  rw [e]
  subst e2; subst e1
  refine ⟨by show P.2.1 + 1 = _; omega, by omega, fun q hq => ?_, fun q hq => ?_, h5, h7, h8⟩
  · show upd (upd fs (12 + 2 * rs) _) (13 + 2 * rs) _ (12 + 2 * q) = nI (10 * upN P.2.2.2.1 P.2.1 (v 1) q + upN P.2.2.1 P.2.1 (v 0) q) ∧ upN P.2.2.1 P.2.1 (v 0) q ≤ 9 ∧ upN P.2.2.2.1 P.2.1 (v 1) q ≤ 9
    rw [pk_un (show ¬ 12 + 2 * q = 13 + 2 * rs by omega), h1]
    by_cases r : q = rs
    · subst r; rw [pk_us, upN_s, upN_s]; exact ⟨rfl, hx, hy⟩
    · rw [pk_un (show ¬ 12 + 2 * q = 12 + 2 * rs by omega), upN_n r, upN_n r]; exact h3 q (by omega)
  · show upd (upd fs (12 + 2 * rs) _) (13 + 2 * rs) _ (13 + 2 * q) = nI (upN P.2.2.2.2.1 P.2.1 (v 2) q)
    rw [h1]
    by_cases r : q = rs
    · subst r; rw [pk_us, upN_s]
    · rw [pk_un (show ¬ 13 + 2 * q = 13 + 2 * rs by omega), pk_un (show ¬ 13 + 2 * q = 12 + 2 * rs by omega), upN_n r]; exact h4' q (by omega)
theorem MR_0 {fr fs ft : Nat → Int32} (hr : ∀ q, q < 8 → fr q = nI (([100, 1, 0, 0, 1, 99, 1, 0] : List Nat).getD q 0)) (ht : ∀ q, q < 7 → ft q = 0) : MR PSt0 0 fr fs ft :=
  ⟨rfl, by decide, fun q h => absurd h (Nat.not_lt_zero q), fun q h => absurd h (Nat.not_lt_zero q), hr, fun q hq => by rw [ht q hq]; rfl, rfl⟩
theorem CR_0 {c2 c3 c4 : Nat → Int32} : CR PSt0 uF c2 c3 c4 0 0 :=
  ⟨rfl, by decide, fun q h => absurd h (Nat.not_lt_zero q), fun q h => absurd h (Nat.not_lt_zero q), (by decide +kernel : ∀ q, q < 8 → uF q = nI (([100, 1, 0, 0, 1, 99, 1, 0] : List Nat).getD q 0)), (by intro q hq; exact ⟨fun h => Bool.noConfusion (show false = true from h), fun h => absurd ((by decide +kernel : ∀ q, q < 7 → (0 : Int32) &&& bitS q = 0) q hq) h⟩)⟩
/-- the answer of customs, and the fault behind it -/
def CuR (tf : Nat → Int32) (ln : Nat) (x r fk fp fk1 fp1 : Int32) : Prop :=
  ((x < 0 ∨ nI ln < x) ∧ r = (-2) ∧ fk1 = fk ∧ fp1 = fp) ∨ (¬ (x < 0 ∨ nI ln < x) ∧ ∃ n : Nat, n ≤ ln ∧ x = nI n ∧ (((parF tf n (n + 1) 0 0 PSt0).1 = 0 ∧ r = nI (parF tf n (n + 1) 0 0 PSt0).2.2.1 ∧ fk1 = 0 ∧ fp1 = (-1)) ∨ (¬ (parF tf n (n + 1) 0 0 PSt0).1 = 0 ∧ r = (-1) ∧ fk1 = nI (parF tf n (n + 1) 0 0 PSt0).1 ∧ fp1 = nI (parF tf n (n + 1) 0 0 PSt0).2.1)))
theorem CuR_two {tf : Nat → Int32} {ln : Nat} {x r r2 fk fp fk1 fp1 fk2 fp2 : Int32} (hl : ln ≤ 400) (h : CuR tf ln x r fk fp fk1 fp1) (g : CuR tf ln x r2 fk fp fk2 fp2) : r = r2 ∧ fk1 = fk2 ∧ fp1 = fp2 := by
  rcases h with ⟨a, b, c, d⟩ | ⟨a, n, hn, ex, h⟩
  · rcases g with ⟨_, b2, c2, d2⟩ | ⟨a2, _⟩
    · exact ⟨b.trans b2.symm, c.trans c2.symm, d.trans d2.symm⟩
    · exact absurd a a2
  · rcases g with ⟨a2, _⟩ | ⟨_, n2, hn2, ex2, g⟩
    · exact absurd a2 a
    · obtain rfl : n = n2 := (nI_eq (by omega) (by omega)).mp (ex.symm.trans ex2)
      rcases h with ⟨a, b, c, d⟩ | ⟨a, b, c, d⟩ <;> rcases g with ⟨a2, b2, c2, d2⟩ | ⟨a2, b2, c2, d2⟩
      · exact ⟨b.trans b2.symm, c.trans c2.symm, d.trans d2.symm⟩
      · exact absurd a a2
      · exact absurd a2 a
      · exact ⟨b.trans b2.symm, c.trans c2.symm, d.trans d2.symm⟩
/-- bytes of a number -/
def bt (x : Int32) (q : Nat) : Int32 := (x >>> (nI (24 - 8 * q) &&& 31)) &&& 255
theorem bt_any (x : Int32) (k : Nat) (a : UInt32) (b : Int32) (hk : k ≤ 24) (ha : (x.toUInt32 >>> a).toInt32.toBitVec = x.toBitVec >>> k) (hb : (x >>> b).toBitVec = x.toBitVec.sshiftRight k) : (x.toUInt32 >>> a).toInt32 &&& 255 = (x >>> b) &&& 255 := by
  apply Int32.toBitVec_inj.mp
  rw [Int32.toBitVec_and, Int32.toBitVec_and, ha, hb]
  apply BitVec.eq_of_getLsbD_eq
  intro j hj
  rw [BitVec.getLsbD_and, BitVec.getLsbD_and, BitVec.getLsbD_ushiftRight, BitVec.getLsbD_sshiftRight]
  by_cases h8 : k + j < 32
  · rw [if_pos h8]
    have : decide (32 ≤ j) = false := decide_eq_false (by omega)
    rw [this]
    simp
  · have : (Int32.toBitVec 255).getLsbD j = false := by
      have hq : ∀ j, j < 32 → 8 ≤ j → (Int32.toBitVec 255).getLsbD j = false := by decide
      exact hq j hj (by omega)
    rw [this]; simp
theorem bt_0 (x : Int32) : (x.toUInt32 >>> (Int32.toUInt32 24 &&& Int32.toUInt32 31)).toInt32 &&& 255 = bt x 0 :=
  bt_any x 24 _ _ (by decide) (by show (x.toUInt32 >>> (Int32.toUInt32 24 &&& Int32.toUInt32 31)).toBitVec = _; rw [UInt32.toBitVec_shiftRight]; rfl) (by rw [Int32.toBitVec_shiftRight]; rfl)
theorem bt_1 (x : Int32) : (x.toUInt32 >>> (Int32.toUInt32 16 &&& Int32.toUInt32 31)).toInt32 &&& 255 = bt x 1 :=
  bt_any x 16 _ _ (by decide) (by show (x.toUInt32 >>> (Int32.toUInt32 16 &&& Int32.toUInt32 31)).toBitVec = _; rw [UInt32.toBitVec_shiftRight]; rfl) (by rw [Int32.toBitVec_shiftRight]; rfl)
theorem bt_2 (x : Int32) : (x.toUInt32 >>> (Int32.toUInt32 8 &&& Int32.toUInt32 31)).toInt32 &&& 255 = bt x 2 :=
  bt_any x 8 _ _ (by decide) (by show (x.toUInt32 >>> (Int32.toUInt32 8 &&& Int32.toUInt32 31)).toBitVec = _; rw [UInt32.toBitVec_shiftRight]; rfl) (by rw [Int32.toBitVec_shiftRight]; rfl)
theorem bt_3 (x : Int32) : x &&& 255 = bt x 3 := by
  unfold bt
  have h : x >>> (nI (24 - 8 * 3) &&& 31) = x := by
    apply Int32.toBitVec_inj.mp
    rw [Int32.toBitVec_shiftRight]
    show x.toBitVec.sshiftRight 0 = _
    simp
  rw [h]
/-- a row with four bytes more -/
def ap4 (f : Nat → Int32) (n : Nat) (x : Int32) : Nat → Int32 := fun j => if n ≤ j ∧ j < n + 4 then bt x (j - n) else f j
def fdW (a1 a2 a3 a4 a5 : Int32) (k : Nat) : Int32 := if k < 4 then a1 else if k < 8 then a2 else if k < 12 then a3 else if k < 16 then a4 else a5
def fdT (f : Nat → Int32) (n : Nat) (a1 a2 a3 a4 a5 : Int32) : Nat → Int32 := fun j => if n ≤ j ∧ j < n + 20 then bt (fdW a1 a2 a3 a4 a5 (j - n)) ((j - n) % 4) else f j
theorem ap4_of {f g1 g2 g3 g4 : Nat → Int32} {n : Nat} {x : Int32} (e1 : g1 = upd f n (bt x 0)) (e2 : g2 = upd g1 (n + 1) (bt x 1)) (e3 : g3 = upd g2 (n + 2) (bt x 2)) (e4 : g4 = upd g3 (n + 3) (bt x 3)) : g4 = ap4 f n x := by
  subst e4; subst e3; subst e2; subst e1
  funext j
  unfold ap4
  by_cases h : n ≤ j ∧ j < n + 4
  · rw [if_pos h]
    rcases (show j = n + 3 ∨ j = n + 2 ∨ j = n + 1 ∨ j = n by omega) with rfl | rfl | rfl | rfl
    · rw [pk_us, show n + 3 - n = 3 by omega]
    · rw [pk_un (by omega), pk_us, show n + 2 - n = 2 by omega]
    · rw [pk_un (by omega), pk_un (by omega), pk_us, show n + 1 - n = 1 by omega]
    · rw [pk_un (by omega), pk_un (by omega), pk_un (by omega), pk_us, Nat.sub_self]
  · rw [if_neg h, pk_un (by omega), pk_un (by omega), pk_un (by omega), pk_un (by omega)]
theorem fdT_of {f : Nat → Int32} {n : Nat} {a1 a2 a3 a4 a5 : Int32} : ap4 (ap4 (ap4 (ap4 (ap4 f n a1) (n + 4) a2) (n + 8) a3) (n + 12) a4) (n + 16) a5 = fdT f n a1 a2 a3 a4 a5 := by
  funext j
  unfold fdT fdW ap4
  by_cases h5 : n + 16 ≤ j ∧ j < n + 16 + 4
  · rw [if_pos h5, if_pos (show n ≤ j ∧ j < n + 20 by omega), if_neg (by omega), if_neg (by omega), if_neg (by omega), if_neg (by omega), show (j - n) % 4 = j - (n + 16) by omega]
  rw [if_neg h5]
  by_cases h4 : n + 12 ≤ j ∧ j < n + 12 + 4
  · rw [if_pos h4, if_pos (show n ≤ j ∧ j < n + 20 by omega), if_neg (by omega), if_neg (by omega), if_neg (by omega), if_pos (by omega), show (j - n) % 4 = j - (n + 12) by omega]
  rw [if_neg h4]
  by_cases h3 : n + 8 ≤ j ∧ j < n + 8 + 4
  · rw [if_pos h3, if_pos (show n ≤ j ∧ j < n + 20 by omega), if_neg (by omega), if_neg (by omega), if_pos (by omega), show (j - n) % 4 = j - (n + 8) by omega]
  rw [if_neg h3]
  by_cases h2 : n + 4 ≤ j ∧ j < n + 4 + 4
  · rw [if_pos h2, if_pos (show n ≤ j ∧ j < n + 20 by omega), if_neg (by omega), if_pos (by omega), show (j - n) % 4 = j - (n + 4) by omega]
  rw [if_neg h2]
  by_cases h1 : n ≤ j ∧ j < n + 4
  · rw [if_pos h1, if_pos (show n ≤ j ∧ j < n + 20 by omega), if_pos (by omega), show (j - n) % 4 = j - n by omega]
  · rw [if_neg h1, if_neg (show ¬ (n ≤ j ∧ j < n + 20) by omega)]
theorem fd_s {f g g' : Nat → Int32} {n i : Nat} {a1 a2 a3 a4 a5 y : Int32} (h : ∀ j, g j = if n ≤ j ∧ j < n + i then bt (fdW a1 a2 a3 a4 a5 (j - n)) ((j - n) % 4) else f j) (ey : y = bt (fdW a1 a2 a3 a4 a5 i) (i % 4)) (e : g' = upd g (n + i) y) : ∀ j, g' j = if n ≤ j ∧ j < n + (i + 1) then bt (fdW a1 a2 a3 a4 a5 (j - n)) ((j - n) % 4) else f j := by
  intro j
  subst e
  by_cases r : j = n + i
  · subst r; rw [pk_us, if_pos (by omega), ey, show n + i - n = i by omega]
  · rw [pk_un r, h j]
    by_cases r2 : n ≤ j ∧ j < n + i
    · rw [if_pos r2, if_pos (by omega)]
    · rw [if_neg r2, if_neg (by omega)]
theorem fd_end {f g : Nat → Int32} {n : Nat} {a1 a2 a3 a4 a5 : Int32} (h : ∀ j, g j = if n ≤ j ∧ j < n + 20 then bt (fdW a1 a2 a3 a4 a5 (j - n)) ((j - n) % 4) else f j) : g = fdT f n a1 a2 a3 a4 a5 := funext h
theorem nI_nm1 {a : Nat} (h : a < 2 ^ 31) : ¬ nI a = (-1) := by
  intro e
  have h1 := congrArg Int32.toInt e
  rw [nI_toInt h] at h1
  have h2 : (-1 : Int32).toInt = -1 := by decide
  omega
end PARSE4
section PARSE5
/-- a number taken by the reference -/
def NumP (f : Nat → Int32) (n lo hi i : Nat) (r rd1 fu fp fu1 fp1 : Int32) (nx1 : Nat) (kd1 wh1 pl1 : Int32) : Prop :=
  ∃ s t x e : Nat, s = tS f n i ∧ t = tK f n s ∧ x = tV f n s ∧ e = tN f n s ∧ i ≤ s ∧ s ≤ e ∧ e ≤ n ∧ ((r = 0 ∧ ¬ t = 2 ∧ fu1 = 1 ∧ fp1 = nI s) ∨ (r = 0 ∧ t = 2 ∧ (x < lo ∨ hi < x) ∧ fu1 = 2 ∧ fp1 = nI s) ∨ (r = 1 ∧ t = 2 ∧ ¬ (x < lo ∨ hi < x) ∧ rd1 = nI x ∧ fu1 = fu ∧ fp1 = fp ∧ LA f n e nx1 kd1 wh1 pl1))
theorem NumP_of {f : Nat → Int32} {n lo hi i : Nat} {r rd1 fu fp fu1 fp1 : Int32} {nx1 : Nat} {kd1 wh1 pl1 : Int32} (hi' : i ≤ n) (h : (r = 0 ∧ ¬ tK f n (tS f n i) = 2 ∧ fu1 = 1 ∧ fp1 = nI (tS f n i)) ∨ (r = 0 ∧ tK f n (tS f n i) = 2 ∧ (tV f n (tS f n i) < lo ∨ hi < tV f n (tS f n i)) ∧ fu1 = 2 ∧ fp1 = nI (tS f n i)) ∨ (r = 1 ∧ tK f n (tS f n i) = 2 ∧ ¬ (tV f n (tS f n i) < lo ∨ hi < tV f n (tS f n i)) ∧ rd1 = nI (tV f n (tS f n i)) ∧ fu1 = fu ∧ fp1 = fp ∧ LA f n (tN f n (tS f n i)) nx1 kd1 wh1 pl1)) : NumP f n lo hi i r rd1 fu fp fu1 fp1 nx1 kd1 wh1 pl1 := by
  have hs := tS_le (f := f) hi'
  have he := tN_le (f := f) hs.2
  exact ⟨_, _, _, _, rfl, rfl, rfl, rfl, hs.1, he.1, he.2, h⟩
/-- numbers that failed -/
def NF0 (R : Nat × Nat × Nat × (Nat → Nat)) (r fu1 fp1 : Int32) : Prop := r = 0 ∧ ¬ R.1 = 0 ∧ fu1 = nI R.1 ∧ fp1 = nI R.2.1
theorem NF0_1 {R : Nat × Nat × Nat × (Nat → Nat)} {k s : Nat} {v : Nat → Nat} {fu1 fp1 : Int32} (h : R = (k + 1, s, 0, v)) (h1 : fu1 = nI (k + 1)) (h2 : fp1 = nI s) : NF0 R 0 fu1 fp1 := by
  subst h
  exact ⟨rfl, Nat.succ_ne_zero _, h1, h2⟩
theorem ru_1 {f g : Nat → Int32} {a w : Nat} {y : Int32} {v : Nat → Nat} (ha : a = slN w) (hn : nuN w = 1) (e : g = upd f a y) (hy : y = nI (v 0)) : ∀ q, g q = if slN w ≤ q ∧ q < slN w + nuN w then nI (v (q - slN w)) else f q := by
  intro q
  subst ha; subst e
  by_cases r : q = slN w
  · subst r; rw [pk_us, if_pos (by omega), Nat.sub_self]; exact hy
  · rw [pk_un r, if_neg (by omega)]
theorem ru_2 {f g g' : Nat → Int32} {a w : Nat} {y z : Int32} {v : Nat → Nat} (ha : a = slN w) (hn : nuN w = 2) (e : g = upd f a y) (e2 : g' = upd g (a + 1) z) (hy : y = nI (v 0)) (hz : z = nI (v 1)) : ∀ q, g' q = if slN w ≤ q ∧ q < slN w + nuN w then nI (v (q - slN w)) else f q := by
  intro q
  subst ha; subst e2; subst e
  by_cases r : q = slN w + 1
  · subst r; rw [pk_us, if_pos (by omega), show slN w + 1 - slN w = 1 by omega]; exact hz
  · rw [pk_un r]
    by_cases r2 : q = slN w
    · subst r2; rw [pk_us, if_pos (by omega), Nat.sub_self]; exact hy
    · rw [pk_un r2, if_neg (by omega)]
theorem nLo_n {w j : Nat} (h : w < 6) : nLo w j = leN w := if_neg (by omega)
/-- a line that failed -/
def LF0 (L : Nat × Nat × Nat × Nat × (Nat → Nat)) (r fu1 fp1 : Int32) : Prop := r = 0 ∧ ¬ L.1 = 0 ∧ fu1 = nI L.1 ∧ fp1 = nI L.2.1
theorem LF0_1 {L : Nat × Nat × Nat × Nat × (Nat → Nat)} {k s : Nat} {fu1 fp1 : Int32} (h : L = (k + 1, s, 0, 0, fun _ => 0)) (h1 : fu1 = nI (k + 1)) (h2 : fp1 = nI s) : LF0 L 0 fu1 fp1 := by
  subst h
  exact ⟨rfl, Nat.succ_ne_zero _, h1, h2⟩
theorem LF0_R {f : Nat → Int32} {n w : Nat} {L : Nat × Nat × Nat × Nat × (Nat → Nat)} {R : Nat × Nat × Nat × (Nat → Nat)} {r fu1 fp1 : Int32} (h : L = semiF f n w R) (g : NF0 R r fu1 fp1) : LF0 L r fu1 fp1 := by
  obtain ⟨a, b, c, d⟩ := g
  rw [semi_f b] at h
  subst h
  exact ⟨a, b, c, d⟩
/-- a line that is read up to its semicolon -/
def LF1 (f : Nat → Int32) (n i : Nat) (P : PSt) (L : Nat × Nat × Nat × Nat × (Nat → Nat)) (nx1 : Nat) (kd1 wh1 pl1 : Int32) (rs1 : Nat) (gr gs gt : Nat → Int32) : Prop :=
  ∃ (w : Nat) (R : Nat × Nat × Nat × (Nat → Nat)), L = semiF f n w R ∧ R.1 = 0 ∧ i ≤ R.2.2.1 ∧ R.2.2.1 ≤ n ∧ LA f n R.2.2.1 nx1 kd1 wh1 pl1 ∧ MR (stepF P w R.2.2.2) rs1 gr gs gt
end PARSE5
