section ST7
noncomputable def zB (P : Prop) : Bool := @decide P (Classical.propDecidable P)
theorem zB_t {P : Prop} (h : P) : zB P = true := by unfold zB; exact @decide_eq_true P (Classical.propDecidable P) h
theorem zB_1 {P : Prop} (h : zB P = true) : P := by unfold zB at h; exact @of_decide_eq_true P (Classical.propDecidable P) h
/-- those below n of which P holds, in their order: how many, and which -/
def cP (P : Nat → Bool) : Nat → Nat
  | 0 => 0
  | n + 1 => cP P n + (if P n then 1 else 0)
def zeN (P : Nat → Bool) : Nat → (Nat → Nat)
  | 0 => fun _ => 0
  | n + 1 => if P n then upN (zeN P n) (cP P n) n else zeN P n
section
variable {P : Nat → Bool} {n : Nat}
theorem cP_y (h : P n = true) : cP P (n + 1) = cP P n + 1 := by show cP P n + _ = _; rw [if_pos h]
theorem cP_n (h : ¬ P n = true) : cP P (n + 1) = cP P n := by show cP P n + _ = _; rw [if_neg h, Nat.add_zero]
theorem en_y (h : P n = true) : zeN P (n + 1) = upN (zeN P n) (cP P n) n := by show (if _ then _ else _) = _; rw [if_pos h]
theorem en_n (h : ¬ P n = true) : zeN P (n + 1) = zeN P n := by show (if _ then _ else _) = _; rw [if_neg h]
theorem cP_le : ∀ n, cP P n ≤ n := by
  intro n
  induction n with
  | zero => exact Nat.le_refl _
  | succ n ih => show cP P n + _ ≤ _; split <;> omega
theorem cP_mono {m : Nat} : ∀ n, m ≤ n → cP P m ≤ cP P n := by
  intro n
  induction n with
  | zero => intro h; rw [show m = 0 by omega]; exact Nat.le_refl _
  | succ n ih =>
    intro h
    by_cases r : m = n + 1
    · rw [r]; exact Nat.le_refl _
    · have := ih (by omega)
      show _ ≤ cP P n + _
      omega
theorem en_lt : ∀ n j, j < cP P n → zeN P n j < n ∧ P (zeN P n j) = true ∧ cP P (zeN P n j) = j := by
  intro n
  induction n with
  | zero => intro j h; exact absurd h (Nat.not_lt_zero _)
  | succ n ih =>
    intro j h
    by_cases q : P n = true
    · rw [cP_y q] at h
      rw [en_y q]
      by_cases r : j = cP P n
      · subst r; rw [upN_s]; exact ⟨by omega, q, rfl⟩
      · rw [upN_n r]
        have := ih j (by omega)
        exact ⟨by omega, this.2⟩
    · rw [cP_n q] at h
      rw [en_n q]
      have := ih j h
      exact ⟨by omega, this.2⟩
end
theorem en_s {P : Nat → Bool} {n : Nat} {f g : Nat → Int32} (hp : P n = true) (h : ∀ j, j < cP P n → f j = nI (zeN P n j)) (e : g = upd f (cP P n) (nI n)) : ∀ j, j < cP P (n + 1) → g j = nI (zeN P (n + 1) j) := by
  intro j hj
  subst e
  rw [en_y hp]
  rw [cP_y hp] at hj
  by_cases r : j = cP P n
  · subst r; rw [pk_us, upN_s]
  · rw [pk_un r, upN_n r]; exact h j (by omega)
theorem en_k {P : Nat → Bool} {n : Nat} {f : Nat → Int32} (hp : ¬ P n = true) (h : ∀ j, j < cP P n → f j = nI (zeN P n j)) : ∀ j, j < cP P (n + 1) → f j = nI (zeN P (n + 1) j) := by
  intro j hj
  rw [en_n hp]
  rw [cP_n hp] at hj
  exact h j hj
theorem cP_skip {P : Nat → Bool} {n : Nat} : ∀ d, (∀ x, n ≤ x → x < n + d → ¬ P x = true) → cP P (n + d) = cP P n ∧ zeN P (n + d) = zeN P n := by
  intro d
  induction d with
  | zero => intro _; exact ⟨rfl, rfl⟩
  | succ d ih =>
    intro h
    have h1 := ih (fun x a b => h x a (by omega))
    have h2 := h (n + d) (by omega) (by omega)
    rw [show n + (d + 1) = (n + d) + 1 from rfl, cP_n h2, en_n h2]
    exact h1
section
variable {P : Nat → Bool} {w h i j ok r4 : Nat} {f5 m2 m3 m4 k2 k3 k4 : Nat → Int32} {v : Int32}
theorem go_n (hg : ok = cP P (j * 10 + i) ∧ ∀ q, q < ok → m2 q = nI (zeN P (j * 10 + i) q % 10) ∧ m3 q = nI (zeN P (j * 10 + i) q / 10) ∧ (m4 q = 0 ↔ crkP w h f5 r4 (zeN P (j * 10 + i) q))) (hp : ¬ P (j * 10 + i) = true) : ok = cP P (j * 10 + (i + 1)) ∧ ∀ q, q < ok → m2 q = nI (zeN P (j * 10 + (i + 1)) q % 10) ∧ m3 q = nI (zeN P (j * 10 + (i + 1)) q / 10) ∧ (m4 q = 0 ↔ crkP w h f5 r4 (zeN P (j * 10 + (i + 1)) q)) := by
  rw [show j * 10 + (i + 1) = (j * 10 + i) + 1 from rfl, cP_n hp, en_n hp]
  exact hg
theorem go_y (hg : ok = cP P (j * 10 + i) ∧ ∀ q, q < ok → m2 q = nI (zeN P (j * 10 + i) q % 10) ∧ m3 q = nI (zeN P (j * 10 + i) q / 10) ∧ (m4 q = 0 ↔ crkP w h f5 r4 (zeN P (j * 10 + i) q))) (hp : P (j * 10 + i) = true) (hi : i < 10) (e2 : k2 = upd m2 ok (nI i)) (e3 : k3 = upd m3 ok (nI j)) (e4 : k4 = upd m4 ok (vp_nar .boolean v)) (hv : vp_nar .boolean v = 0 ↔ crkP w h f5 r4 (j * 10 + i)) : ok + 1 = cP P (j * 10 + (i + 1)) ∧ ∀ q, q < ok + 1 → k2 q = nI (zeN P (j * 10 + (i + 1)) q % 10) ∧ k3 q = nI (zeN P (j * 10 + (i + 1)) q / 10) ∧ (k4 q = 0 ↔ crkP w h f5 r4 (zeN P (j * 10 + (i + 1)) q)) := by
  rw [show j * 10 + (i + 1) = (j * 10 + i) + 1 from rfl, cP_y hp, en_y hp]
  refine ⟨by rw [hg.1], fun q hq => ?_⟩
  subst e2; subst e3; subst e4
  rw [← hg.1]
  by_cases r : q = ok
  · subst r
    rw [pk_us, pk_us, pk_us, upN_s, show (j * 10 + i) % 10 = i by omega, show (j * 10 + i) / 10 = j by omega]
    exact ⟨rfl, rfl, hv⟩
  · rw [pk_un r, pk_un r, pk_un r, upN_n r]
    exact hg.2 q (by omega)
end
theorem go_r {w h i j ok r4 : Nat} {f1 f4 f5 m2 m3 m4 : Nat → Int32} (hg : ok = cP (fun c => zB ((c % 10 < w ∧ c / 10 < h) ∧ 0 < f1 c ∧ f5 c = 0 ∧ f4 c = (-1))) (j * 10 + i) ∧ ∀ q, q < ok → m2 q = nI (zeN (fun c => zB ((c % 10 < w ∧ c / 10 < h) ∧ 0 < f1 c ∧ f5 c = 0 ∧ f4 c = (-1))) (j * 10 + i) q % 10) ∧ m3 q = nI (zeN (fun c => zB ((c % 10 < w ∧ c / 10 < h) ∧ 0 < f1 c ∧ f5 c = 0 ∧ f4 c = (-1))) (j * 10 + i) q / 10) ∧ (m4 q = 0 ↔ crkP w h f5 r4 (zeN (fun c => zB ((c % 10 < w ∧ c / 10 < h) ∧ 0 < f1 c ∧ f5 c = 0 ∧ f4 c = (-1))) (j * 10 + i) q))) (hi : w ≤ i) (hi2 : i ≤ 10) : ok = cP (fun c => zB ((c % 10 < w ∧ c / 10 < h) ∧ 0 < f1 c ∧ f5 c = 0 ∧ f4 c = (-1))) ((j + 1) * 10) ∧ ∀ q, q < ok → m2 q = nI (zeN (fun c => zB ((c % 10 < w ∧ c / 10 < h) ∧ 0 < f1 c ∧ f5 c = 0 ∧ f4 c = (-1))) ((j + 1) * 10) q % 10) ∧ m3 q = nI (zeN (fun c => zB ((c % 10 < w ∧ c / 10 < h) ∧ 0 < f1 c ∧ f5 c = 0 ∧ f4 c = (-1))) ((j + 1) * 10) q / 10) ∧ (m4 q = 0 ↔ crkP w h f5 r4 (zeN (fun c => zB ((c % 10 < w ∧ c / 10 < h) ∧ 0 < f1 c ∧ f5 c = 0 ∧ f4 c = (-1))) ((j + 1) * 10) q)) := by
  have e := cP_skip (P := fun c => zB ((c % 10 < w ∧ c / 10 < h) ∧ 0 < f1 c ∧ f5 c = 0 ∧ f4 c = (-1))) (n := j * 10 + i) (10 - i) (fun x a b q => by have := (zB_1 q).1; omega)
  rw [show j * 10 + i + (10 - i) = (j + 1) * 10 by omega] at e
  rw [e.1, e.2]
  exact hg
theorem go_e {w h j ok r4 : Nat} {f1 f4 f5 m2 m3 m4 : Nat → Int32} (hg : ok = cP (fun c => zB ((c % 10 < w ∧ c / 10 < h) ∧ 0 < f1 c ∧ f5 c = 0 ∧ f4 c = (-1))) (j * 10) ∧ ∀ q, q < ok → m2 q = nI (zeN (fun c => zB ((c % 10 < w ∧ c / 10 < h) ∧ 0 < f1 c ∧ f5 c = 0 ∧ f4 c = (-1))) (j * 10) q % 10) ∧ m3 q = nI (zeN (fun c => zB ((c % 10 < w ∧ c / 10 < h) ∧ 0 < f1 c ∧ f5 c = 0 ∧ f4 c = (-1))) (j * 10) q / 10) ∧ (m4 q = 0 ↔ crkP w h f5 r4 (zeN (fun c => zB ((c % 10 < w ∧ c / 10 < h) ∧ 0 < f1 c ∧ f5 c = 0 ∧ f4 c = (-1))) (j * 10) q))) (hj : h ≤ j) (hj2 : j ≤ 10) : ok = cP (fun c => zB ((c % 10 < w ∧ c / 10 < h) ∧ 0 < f1 c ∧ f5 c = 0 ∧ f4 c = (-1))) 100 ∧ ∀ q, q < ok → m2 q = nI (zeN (fun c => zB ((c % 10 < w ∧ c / 10 < h) ∧ 0 < f1 c ∧ f5 c = 0 ∧ f4 c = (-1))) 100 q % 10) ∧ m3 q = nI (zeN (fun c => zB ((c % 10 < w ∧ c / 10 < h) ∧ 0 < f1 c ∧ f5 c = 0 ∧ f4 c = (-1))) 100 q / 10) ∧ (m4 q = 0 ↔ crkP w h f5 r4 (zeN (fun c => zB ((c % 10 < w ∧ c / 10 < h) ∧ 0 < f1 c ∧ f5 c = 0 ∧ f4 c = (-1))) 100 q)) := by
  have e := cP_skip (P := fun c => zB ((c % 10 < w ∧ c / 10 < h) ∧ 0 < f1 c ∧ f5 c = 0 ∧ f4 c = (-1))) (n := j * 10) (100 - j * 10) (fun x a b q => by have := (zB_1 q).1; omega)
  rw [show j * 10 + (100 - j * 10) = 100 by omega] at e
  rw [e.1, e.2]
  exact hg
/-- a look for the next cell: none, found, spent -/
def scan (C M : Nat → Bool) : Nat → Nat → Nat → Nat × Nat × Nat
  | 0, c, lk => (0, c, lk)
  | f + 1, c, lk => if C c = true then (if lk = 20000 then (2, c, lk) else if M c = true then (1, c, lk + 1) else scan C M f (c + 1) (lk + 1)) else scan C M f (c + 1) lk
section
variable {C M : Nat → Bool} {c lk : Nat}
theorem sc_e (h : 100 ≤ c) : scan C M (100 - c) c lk = (0, c, lk) := by rw [show 100 - c = 0 by omega]; rfl
theorem sc_u (h : c < 100) : scan C M (100 - c) c lk = if C c = true then (if lk = 20000 then (2, c, lk) else if M c = true then (1, c, lk + 1) else scan C M (100 - (c + 1)) (c + 1) (lk + 1)) else scan C M (100 - (c + 1)) (c + 1) lk := by
  rw [show 100 - c = (100 - (c + 1)) + 1 by omega]
  rfl
theorem sc_n (h : c < 100) (hc : ¬ C c = true) : scan C M (100 - c) c lk = scan C M (100 - (c + 1)) (c + 1) lk := by rw [sc_u h, if_neg hc]
theorem sc_2 (h : c < 100) (hc : C c = true) (hl : lk = 20000) : scan C M (100 - c) c lk = (2, c, lk) := by rw [sc_u h, if_pos hc, if_pos hl]
theorem sc_1 (h : c < 100) (hc : C c = true) (hl : ¬ lk = 20000) (hm : M c = true) : scan C M (100 - c) c lk = (1, c, lk + 1) := by rw [sc_u h, if_pos hc, if_neg hl, if_pos hm]
theorem sc_0 (h : c < 100) (hc : C c = true) (hl : ¬ lk = 20000) (hm : ¬ M c = true) : scan C M (100 - c) c lk = scan C M (100 - (c + 1)) (c + 1) (lk + 1) := by rw [sc_u h, if_pos hc, if_neg hl, if_neg hm]
theorem sc_skip : ∀ d c, c + d ≤ 100 → (∀ x, c ≤ x → x < c + d → ¬ C x = true) → scan C M (100 - c) c lk = scan C M (100 - (c + d)) (c + d) lk := by
  intro d
  induction d with
  | zero => intro c _ _; rfl
  | succ d ih =>
    intro c h1 h2
    rw [sc_n (by omega) (h2 c (Nat.le_refl _) (by omega)), ih (c + 1) (by omega) (fun x a b => h2 x (by omega) (by omega)), show c + 1 + d = c + (d + 1) by omega]
theorem sc_none (h : ∀ x, c ≤ x → x < 100 → ¬ C x = true) (hc : c ≤ 100) : (scan C M (100 - c) c lk).1 = 0 ∧ (scan C M (100 - c) c lk).2.2 = lk := by
  rw [sc_skip (100 - c) c (by omega) (fun x a b => h x a (by omega)), show c + (100 - c) = 100 by omega]
  exact ⟨rfl, rfl⟩
end
/-- which cells are tried -/
noncomputable def cnd (w h bc : Nat) (lo ck st : Nat → Int32) (wh : Nat → Nat) (c : Nat) : Bool := zB ((c % 10 < w ∧ c / 10 < h) ∧ 0 < lo c ∧ ck c = 0 ∧ ∀ q, q < bc → st q = 1 → ¬ wh q = c)
noncomputable def myB (w h bc : Nat) (lo ck fi st : Nat → Int32) (b0 : Int32) (wt wh ru : Nat → Nat) (b c : Nat) : Bool := zB (mayM bc w h fi st lo ck b0 wt wh ru b c)
/-- the search for a row of cells: failed, found, spent -/
noncomputable def srch (w h bc : Nat) (lo ck fi : Nat → Int32) (b0 : Int32) (wt ru : Nat → Nat) (wa : Nat → Nat) (mn : Nat) : Nat → Nat → (Nat → Nat) → Nat → (Nat → Int32) → (Nat → Nat) → Nat × Nat × (Nat → Int32) × (Nat → Nat)
  | 0, _, _, lk, st, wh => (3, lk, st, wh)
  | n + 1, k, tc, lk, st, wh =>
    if k < mn then
      (if (scan (cnd w h bc lo ck st wh) (myB w h bc lo ck fi st b0 wt wh ru (wa k)) (100 - tc k) (tc k) lk).1 = 1 then
        srch w h bc lo ck fi b0 wt ru wa mn n (k + 1) (upN (upN tc k ((scan (cnd w h bc lo ck st wh) (myB w h bc lo ck fi st b0 wt wh ru (wa k)) (100 - tc k) (tc k) lk).2.1 + 1)) (k + 1) 0) (scan (cnd w h bc lo ck st wh) (myB w h bc lo ck fi st b0 wt wh ru (wa k)) (100 - tc k) (tc k) lk).2.2 (upd st (wa k) 1) (upN wh (wa k) (scan (cnd w h bc lo ck st wh) (myB w h bc lo ck fi st b0 wt wh ru (wa k)) (100 - tc k) (tc k) lk).2.1)
      else if (scan (cnd w h bc lo ck st wh) (myB w h bc lo ck fi st b0 wt wh ru (wa k)) (100 - tc k) (tc k) lk).1 = 0 then
        (if k = 0 then (0, (scan (cnd w h bc lo ck st wh) (myB w h bc lo ck fi st b0 wt wh ru (wa k)) (100 - tc k) (tc k) lk).2.2, st, wh)
         else srch w h bc lo ck fi b0 wt ru wa mn n (k - 1) tc (scan (cnd w h bc lo ck st wh) (myB w h bc lo ck fi st b0 wt wh ru (wa k)) (100 - tc k) (tc k) lk).2.2 (upd st (wa (k - 1)) 0) wh)
      else (2, lk, st, wh))
    else (1, lk, st, wh)
section
variable {w h bc : Nat} {lo ck fi : Nat → Int32} {b0 : Int32} {wt ru wa : Nat → Nat} {mn n k lk : Nat} {tc : Nat → Nat} {st : Nat → Int32} {wh : Nat → Nat} {c lk' : Nat}
theorem sr_done (hk : ¬ k < mn) : srch w h bc lo ck fi b0 wt ru wa mn (n + 1) k tc lk st wh = (1, lk, st, wh) := by
  show (if _ then _ else _) = _
  rw [if_neg hk]
theorem sr_y (hk : k < mn) (e : scan (cnd w h bc lo ck st wh) (myB w h bc lo ck fi st b0 wt wh ru (wa k)) (100 - tc k) (tc k) lk = (1, c, lk')) : srch w h bc lo ck fi b0 wt ru wa mn (n + 1) k tc lk st wh = srch w h bc lo ck fi b0 wt ru wa mn n (k + 1) (upN (upN tc k (c + 1)) (k + 1) 0) lk' (upd st (wa k) 1) (upN wh (wa k) c) := by
  show (if _ then _ else _) = _
  rw [if_pos hk, e, if_pos rfl]
theorem sr_f0 (hk : k < mn) (h0 : k = 0) (e1 : (scan (cnd w h bc lo ck st wh) (myB w h bc lo ck fi st b0 wt wh ru (wa k)) (100 - tc k) (tc k) lk).1 = 0) (e2 : (scan (cnd w h bc lo ck st wh) (myB w h bc lo ck fi st b0 wt wh ru (wa k)) (100 - tc k) (tc k) lk).2.2 = lk') : srch w h bc lo ck fi b0 wt ru wa mn (n + 1) k tc lk st wh = (0, lk', st, wh) := by
  show (if _ then _ else _) = _
  rw [if_pos hk, if_neg (by rw [e1]; decide), if_pos e1, if_pos h0, e2]
theorem sr_f {j : Nat} (hk : k < mn) (h0 : k = j + 1) (e1 : (scan (cnd w h bc lo ck st wh) (myB w h bc lo ck fi st b0 wt wh ru (wa k)) (100 - tc k) (tc k) lk).1 = 0) (e2 : (scan (cnd w h bc lo ck st wh) (myB w h bc lo ck fi st b0 wt wh ru (wa k)) (100 - tc k) (tc k) lk).2.2 = lk') : srch w h bc lo ck fi b0 wt ru wa mn (n + 1) k tc lk st wh = srch w h bc lo ck fi b0 wt ru wa mn n j tc lk' (upd st (wa j) 0) wh := by
  show (if _ then _ else _) = _
  rw [if_pos hk, if_neg (by rw [e1]; decide), if_pos e1, if_neg (by omega), e2, show k - 1 = j by omega]
theorem sr_2 (hk : k < mn) (e1 : (scan (cnd w h bc lo ck st wh) (myB w h bc lo ck fi st b0 wt wh ru (wa k)) (100 - tc k) (tc k) lk).1 = 2) : srch w h bc lo ck fi b0 wt ru wa mn (n + 1) k tc lk st wh = (2, lk, st, wh) := by
  show (if _ then _ else _) = _
  rw [if_pos hk, if_neg (by rw [e1]; decide), if_neg (by rw [e1]; decide)]
end
section
variable {w h bc c : Nat} {B1 B2 B5 B6 B7 f1 f3 f4 f5 : Nat → Int32} {wt wh : Nat → Nat} {PO : Nat → Bool}
theorem cn_y (H : CI bc w h B1 B2 B5 B6 B7 f3 f4 wt wh) (hc : c % 10 < w ∧ c / 10 < h) (h1 : 0 < f1 c) (h5 : f5 c = 0) (h4 : f4 c = (-1)) (hbc : bc ≤ 10 := by omega) : cnd w h bc f1 f5 B5 wh c = true := by
  refine zB_t ⟨hc, h1, h5, ?_⟩
  rcases H.2.2.1 c hc.1 hc.2 with ⟨b, hb, sb, eb, fb⟩ | ⟨_, q⟩
  · rw [h4] at fb
    exact absurd fb.symm (nI_nm1 (by omega))
  · exact q
theorem cn_n (H : CI bc w h B1 B2 B5 B6 B7 f3 f4 wt wh) (hc : c % 10 < w ∧ c / 10 < h) (h4 : ¬ f4 c = (-1)) : ¬ cnd w h bc f1 f5 B5 wh c = true := by
  intro z
  have z2 := (zB_1 z).2.2.2
  rcases H.2.2.1 c hc.1 hc.2 with ⟨b, hb, sb, eb, fb⟩ | ⟨q, _⟩
  · exact z2 b hb sb eb
  · exact h4 q
theorem cn_po (H : CI bc w h B1 B2 B5 B6 B7 f3 f4 wt wh) (hp : ∀ c, (c % 10 < w ∧ c / 10 < h) → 0 < f1 c → f5 c = 0 → f4 c = (-1) → PO c = true) (z : cnd w h bc f1 f5 B5 wh c = true) : PO c = true := by
  obtain ⟨hc, h1, h5, z2⟩ := zB_1 z
  refine hp c hc h1 h5 ?_
  rcases H.2.2.1 c hc.1 hc.2 with ⟨b, hb, sb, eb, fb⟩ | ⟨q, _⟩
  · exact absurd eb (z2 b hb sb)
  · exact q
end
theorem max0_nI {a : Nat} (h : a < 2 ^ 31) : (if (0 : Int32) < nI a then nI a else 0) = nI a := by
  by_cases q : (0 : Int32) < nI a
  · rw [if_pos q]
  · rw [if_neg q]
    have h0 : (0 : Int32).toInt = 0 := by decide
    have := z_nlt h0 (nI_toInt h) q
    have e : a = 0 := by omega
    rw [e]
    rfl
/-- fees of the first n of a row -/
def feA (cf B2 B3 : Nat → Int32) (wa : Nat → Nat) (fe : Int32) : Nat → Int32
  | 0 => fe
  | n + 1 => feA cf B2 B3 wa fe n + (cf 6 * B2 (wa n) + (if B3 (wa n) = 0 then 0 else cf 7))
/-- the states all through a search: those behind k wait, those ahead are set, others stay -/
def lyS (wa : Nat → Nat) (mn k : Nat) (st0 st : Nat → Int32) : Prop := (∀ j, j < mn → st (wa j) = if j < k then 1 else 0) ∧ ∀ b, (∀ j, j < mn → ¬ wa j = b) → st b = st0 b
section
variable {wa : Nat → Nat} {mn k : Nat} {st0 st : Nat → Int32}
theorem ly_0 (h : ∀ j, j < mn → st0 (wa j) = 0) : lyS wa mn 0 st0 st0 := ⟨fun j hj => by rw [if_neg (Nat.not_lt_zero j)]; exact h j hj, fun _ _ => rfl⟩
theorem ly_y (hi : ∀ a b, a < mn → b < mn → wa a = wa b → a = b) (h : lyS wa mn k st0 st) (hk : k < mn) : lyS wa mn (k + 1) st0 (upd st (wa k) 1) := by
  refine ⟨fun j hj => ?_, fun b hb => ?_⟩
  · by_cases r : j = k
    · subst r; rw [pk_us, if_pos (by omega)]
    · rw [pk_un (fun e => r (hi j k hj hk e)), h.1 j hj]
      by_cases q : j < k
      · rw [if_pos q, if_pos (by omega)]
      · rw [if_neg q, if_neg (by omega)]
  · rw [pk_un (fun e => hb k hk e.symm)]; exact h.2 b hb
theorem ly_f {j : Nat} (hi : ∀ a b, a < mn → b < mn → wa a = wa b → a = b) (h : lyS wa mn (j + 1) st0 st) (hk : j < mn) : lyS wa mn j st0 (upd st (wa j) 0) := by
  refine ⟨fun q hq => ?_, fun b hb => ?_⟩
  · by_cases r : q = j
    · subst r; rw [pk_us, if_neg (Nat.lt_irrefl _)]
    · rw [pk_un (fun e => r (hi q j hq hk e)), h.1 q hq]
      by_cases p : q < j
      · rw [if_pos p, if_pos (by omega)]
      · rw [if_neg p, if_neg (by omega)]
  · rw [pk_un (fun e => hb j hk e.symm)]; exact h.2 b hb
theorem ly_e (h0 : ∀ j, j < mn → st0 (wa j) = 0) (h : lyS wa mn 0 st0 st) : st = st0 := by
  funext b
  by_cases q : ∃ j, j < mn ∧ wa j = b
  · obtain ⟨j, hj, rfl⟩ := q
    rw [h.1 j hj, if_neg (Nat.not_lt_zero j), h0 j hj]
  · exact h.2 b (fun j hj e => q ⟨j, hj, e⟩)
end
/-- less strain is borne too -/
theorem all_lift {bc w h b : Nat} {B1 B2 B5 B6 B7 G5 G6 G7 f1 f3 f4 g3 g4 : Nat → Int32} {wt wh : Nat → Nat} {b0 s : Int32} (hbc : bc ≤ 10) (H : CI bc w h B1 B2 B5 B6 B7 f3 f4 wt wh) (H' : CI bc w h B1 B2 G5 G6 G7 g3 g4 wt wh) (hb : b < bc) (h0 : B5 b = 1) (hs : ¬ s = 1) (e : G5 = upd B5 b s) (ha : allP w h f1 f3 b0) : allP w h f1 g3 b0 := by
  intro c h1 h2 q
  refine ha c h1 h2 ?_
  have hw : ∀ st : Nat → Int32, strN st wt wh c bc ≤ 2000 := fun st => by
    have := strN_le (st := st) (wt := wt) (wh := wh) (c := c) bc (fun d hd => (H.2.2.2.2 d hd).2)
    omega
  rw [H'.2.2.2.1 c h1 h2, e] at q
  rw [H.2.2.2.1 c h1 h2, strN_lift h0 hs bc hb]
  have q2 := Int32.lt_iff_toInt_lt.mp q
  have h3 := hw (upd B5 b s)
  have h4 := hw B5
  rw [strN_lift h0 hs bc hb] at h4
  rw [nI_toInt (by omega)] at q2
  refine Int32.lt_iff_toInt_lt.mpr ?_
  rw [nI_toInt (by omega)]
  omega
end ST7
