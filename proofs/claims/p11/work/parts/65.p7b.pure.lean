section PARSE6
/-- the customs after a call of customs -/
def cuP (tf : Nat → Int32) (ln : Nat) (x : Int32) (P : PSt) : PSt :=
  if x < 0 ∨ nI ln < x then P
  else if (parF tf x.toNatClampNeg (x.toNatClampNeg + 1) 0 0 PSt0).1 = 0 then (parF tf x.toNatClampNeg (x.toNatClampNeg + 1) 0 0 PSt0).2.2.2 else P
theorem cuP_n {tf : Nat → Int32} {ln : Nat} {x : Int32} {P : PSt} (h : x < 0 ∨ nI ln < x) : cuP tf ln x P = P := if_pos h
theorem cuP_f {tf : Nat → Int32} {ln n : Nat} {P : PSt} (hn : n < 2 ^ 31) (h : ¬ (nI n < 0 ∨ nI ln < nI n)) (h0 : ¬ (parF tf n (n + 1) 0 0 PSt0).1 = 0) : cuP tf ln (nI n) P = P := by
  unfold cuP
  rw [if_neg h, nI_clamp hn, if_neg h0]
theorem cuP_y {tf : Nat → Int32} {ln n : Nat} {P : PSt} (hn : n < 2 ^ 31) (h : ¬ (nI n < 0 ∨ nI ln < nI n)) (h0 : (parF tf n (n + 1) 0 0 PSt0).1 = 0) : cuP tf ln (nI n) P = (parF tf n (n + 1) 0 0 PSt0).2.2.2 := by
  unfold cuP
  rw [if_neg h, nI_clamp hn, if_pos h0]
/-- the class's customs are P -/
def Kc (P : PSt) (c1 c2 c3 c4 : Nat → Int32) (sc : Int32) : Prop := sc = nI P.2.1 ∧ P.2.1 ≤ 4 ∧ (∀ q, q < P.2.1 → c2 q = nI (P.2.2.1 q) ∧ c3 q = nI (P.2.2.2.1 q) ∧ c4 q = nI (P.2.2.2.2.1 q)) ∧ ∀ q, q < 8 → c1 q = nI (P.2.2.2.2.2 q)
theorem Kc_of {P : PSt} {c1 c2 c3 c4 : Nat → Int32} {sc : Nat} {to : Int32} (h : CR P c1 c2 c3 c4 sc to) : Kc P c1 c2 c3 c4 (nI sc) := by
  obtain ⟨h1, h2, h3, h4, h5, _⟩ := h
  subst h1
  exact ⟨rfl, h2, fun q hq => ⟨(h3 q hq).1, (h3 q hq).2.1, h4 q hq⟩, h5⟩
/-- the reference's customs are P -/
def Km (P : PSt) (sn : Nat) (fr fs : Nat → Int32) : Prop := sn = P.2.1 ∧ P.2.1 ≤ 4 ∧ (∀ q, q < P.2.1 → fs (2 * q) = nI (10 * P.2.2.2.1 q + P.2.2.1 q) ∧ fs (2 * q + 1) = nI (P.2.2.2.2.1 q)) ∧ ∀ q, q < 8 → fr q = nI (P.2.2.2.2.2 q)
theorem Km_of {P : PSt} {rs : Nat} {fr fs ft gr gs : Nat → Int32} (h : MR P rs fr fs ft) (hr : ∀ q, q < 8 → gr q = fr q) (hs : ∀ q, q < 8 → gs q = fs (12 + q)) : Km P rs gr gs := by
  obtain ⟨h1, h2, h3, h4, h5, _⟩ := h
  subst h1
  refine ⟨rfl, h2, fun q hq => ⟨?_, ?_⟩, fun q hq => (hr q hq).trans (h5 q hq)⟩
  · rw [hs _ (by omega)]; exact (h3 q hq).1
  · rw [hs _ (by omega), show 12 + (2 * q + 1) = 13 + 2 * q by omega]; exact h4 q hq
theorem Km_low {P : PSt} {sn : Nat} {fr fs gs : Nat → Int32} (h : Km P sn fr fs) (hs : ∀ q, q < 12 → gs q = fs q) : Km P sn fr gs := by
  obtain ⟨h1, h2, h3, h4⟩ := h
  refine ⟨h1, h2, fun q hq => ?_, h4⟩
  rw [hs _ (by omega), hs _ (by omega)]
  exact h3 q hq
theorem low_2 {f g g' : Nat → Int32} {a b : Nat} {x y : Int32} (e1 : g = upd f a x) (e2 : g' = upd g b y) (ha : 12 ≤ a) (hb : 12 ≤ b) : ∀ q, q < 12 → g' q = f q := by
  intro q hq
  subst e2; subst e1
  rw [pk_un (show ¬ q = b by omega), pk_un (show ¬ q = a by omega)]
theorem cp_s {f g g' : Nat → Int32} {i : Nat} {y : Int32} (h : ∀ q, g q = if q < i then f (12 + q) else f q) (hi : i < 12) (ey : y = g (12 + i)) (e : g' = upd g i y) : ∀ q, g' q = if q < i + 1 then f (12 + q) else f q := by
  intro q
  subst e
  by_cases r : q = i
  · subst r
    rw [pk_us, if_pos (by omega), ey, h, if_neg (by omega)]
  · rw [pk_un r, h q]
    by_cases r2 : q < i
    · rw [if_pos r2, if_pos (by omega)]
    · rw [if_neg r2, if_neg (by omega)]
theorem ru_s {f g g' : Nat → Int32} {i : Nat} {y : Int32} (h : ∀ q, q < i → g q = f q) (ey : y = f i) (e : g' = upd g i y) : ∀ q, q < i + 1 → g' q = f q := by
  intro q hq
  subst e
  by_cases r : q = i
  · subst r; rw [pk_us]; exact ey
  · rw [pk_un r]; exact h q (by omega)
end PARSE6
