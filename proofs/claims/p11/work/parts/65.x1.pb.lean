section PBND
def bdN (q : Nat) : Nat := ([999, 9, 9, 9, 4, 99, 99, 99] : List Nat).getD q 0
/-- the customs' numbers keep their bounds -/
def PB (P : PSt) : Prop := ∀ q, q < 8 → P.2.2.2.2.2 q ≤ bdN q
theorem bd_eq : ∀ w, w < 6 → ∀ q, q < 8 → slN w ≤ q → q < slN w + nuN w → bdN q = mxN w := by decide +kernel
theorem numsF_b {f : Nat → Int32} {n w : Nat} {dup : Nat → Nat → Bool} : ∀ k j i fp v, (numsF f n w dup k j i fp v).1 = 0 → (∀ q, q < j → v q ≤ mxN w) → ∀ q, q < j + k → (numsF f n w dup k j i fp v).2.2.2 q ≤ mxN w := by
  intro k
  induction k with
  | zero => intro j i fp v _ h q hq; exact h q (by omega)
  | succ k ih =>
    intro j i fp v h0 h q hq
    by_cases h2 : tK f n (tS f n i) = 2
    · by_cases hb : tV f n (tS f n i) < nLo w j ∨ mxN w < tV f n (tS f n i)
      · rw [num_bey rfl rfl h2 rfl hb] at h0
        exact absurd h0 (Nat.succ_ne_zero _)
      · by_cases hd : w = 6 ∧ j = 1 ∧ dup (v 0) (tV f n (tS f n i)) = true
        · rw [num_dup rfl rfl h2 rfl hb hd.1 hd.2.1 hd.2.2] at h0
          exact absurd h0 (Nat.succ_ne_zero _)
        · rw [num_go rfl rfl h2 rfl rfl hb hd] at h0 ⊢
          refine ih (j + 1) _ _ _ h0 (fun q hq => ?_) q (by omega)
          by_cases r : q = j
          · subst r; rw [upN_s]; omega
          · rw [upN_n r]; exact h q (by omega)
    · rw [num_bad rfl rfl h2] at h0
      exact absurd h0 (Nat.succ_ne_zero _)
theorem PB_0 : PB PSt0 := by
  intro q hq
  exact (by decide +kernel : ∀ q, q < 8 → (([100, 1, 0, 0, 1, 99, 1, 0] : List Nat).getD q 0) ≤ bdN q) q hq
theorem PB_step {P : PSt} {w : Nat} {v : Nat → Nat} (h : PB P) (hw : w < 7) (hv : ∀ q, q < nuN w → v q ≤ mxN w) : PB (stepF P w v) := by
  intro q hq
  by_cases h6 : w = 6
  · have e : stepF P w v = (P.1, P.2.1 + 1, upN P.2.2.1 P.2.1 (v 0), upN P.2.2.2.1 P.2.1 (v 1), upN P.2.2.2.2.1 P.2.1 (v 2), P.2.2.2.2.2) := if_pos h6
    rw [e]
    exact h q hq
  · have e : stepF P w v = ((fun q => if q = w then true else P.1 q), P.2.1, P.2.2.1, P.2.2.2.1, P.2.2.2.2.1, (fun q => if slN w ≤ q ∧ q < slN w + nuN w then v (q - slN w) else P.2.2.2.2.2 q)) := if_neg h6
    rw [e]
    show (if slN w ≤ q ∧ q < slN w + nuN w then v (q - slN w) else P.2.2.2.2.2 q) ≤ _
    by_cases r : slN w ≤ q ∧ q < slN w + nuN w
    · rw [if_pos r, bd_eq w (by omega) q hq r.1 r.2]; exact hv _ (by omega)
    · rw [if_neg r]; exact h q hq
theorem PB_line {f : Nat → Int32} {n s : Nat} {P : PSt} (h : (lineF f n P s).1 = 0) : (lineF f n P s).2.2.2.1 < 7 ∧ ∀ q, q < nuN (lineF f n P s).2.2.2.1 → (lineF f n P s).2.2.2.2 q ≤ mxN (lineF f n P s).2.2.2.1 := by
  by_cases h1 : tK f n s = 1 ∧ wI f s (tN f n s) < 7
  · by_cases h2 : wI f s (tN f n s) = 6 ∧ 4 ≤ P.2.1
    · rw [line_2 h1 h2.1 h2.2] at h; exact absurd h (Nat.succ_ne_zero _)
    · by_cases h3 : P.1 (wI f s (tN f n s)) = true
      · rw [line_3 h1 h2 h3] at h; exact absurd h (Nat.succ_ne_zero _)
      · rw [line_go h1 h2 h3] at h ⊢
        generalize hw : wI f s (tN f n s) = w at *
        have hb := numsF_b (f := f) (n := n) (w := w) (dup := cDup P.2.2.1 P.2.2.2.1 P.2.1) (nuN w) 0 (tN f n s) (tN f n s) (fun _ => 0)
        generalize numsF f n w (cDup P.2.2.1 P.2.2.2.1 P.2.1) (nuN w) 0 (tN f n s) (tN f n s) (fun _ => 0) = R at *
        unfold semiF at h ⊢
        by_cases r : R.1 = 0
        · rw [if_pos r] at h ⊢
          by_cases r3 : tK f n (tS f n R.2.2.1) = 3
          · rw [if_pos r3]
            exact ⟨h1.2, fun q hq => hb r (fun q hq => absurd hq (Nat.not_lt_zero q)) q (by show q < 0 + nuN w; have : q < nuN w := hq; omega)⟩
          · rw [if_neg r3] at h; exact absurd h (Nat.succ_ne_zero _)
        · rw [if_neg r] at h; exact absurd h r
  · rw [line_bad h1] at h; exact absurd h (Nat.succ_ne_zero _)
theorem PB_par {f : Nat → Int32} {n : Nat} : ∀ k i m P, PB P → (parF f n k i m P).1 = 0 → PB (parF f n k i m P).2.2.2 := by
  intro k
  induction k with
  | zero => intro i m P h _; exact h
  | succ k ih =>
    intro i m P h h0
    by_cases h1 : tK f n (tS f n i) = 0
    · rw [par_0 rfl h1]; exact h
    · by_cases h2 : (lineF f n P (tS f n i)).1 = 0
      · rw [par_go rfl h1 h2] at h0 ⊢
        have hl := PB_line h2
        exact ih _ _ _ (PB_step h hl.1 hl.2) h0
      · rw [par_f rfl h1 h2] at h0; exact absurd h0 h2
theorem PB_cu {tf : Nat → Int32} {ln : Nat} {x : Int32} {P : PSt} (h : PB P) : PB (cuP tf ln x P) := by
  unfold cuP
  split
  · exact h
  · split
    · rename_i q; exact PB_par _ _ _ _ PB_0 q
    · exact h
theorem br_pos {f1 : Nat → Int32} {b0 : Int32} {bn : Nat} (hl : ∀ c, c < 100 → 0 ≤ (f1 c).toInt ∧ (f1 c).toInt ≤ 99) (hb : b0 = nI bn) (hn : bn ≤ 999) : ∀ c, c < 100 → ¬ brI f1 b0 c < 0 := by
  intro c hc
  have h1 := hl c hc
  have e : f1 c = nI (f1 c).toInt.toNat := by
    apply Int32.toInt_inj.mp
    rw [nI_toInt (by omega)]
    omega
  have ha : (f1 c).toInt.toNat ≤ 99 := by omega
  generalize (f1 c).toInt.toNat = a at e ha
  have hm : a * a * bn ≤ 99 * 99 * 999 := Nat.mul_le_mul (Nat.mul_le_mul ha ha) hn
  unfold brI
  rw [e, hb, pk_mul, pk_mul]
  have e2 : nI (a * a * bn) / (100 : Int32) = nI (a * a * bn / 100) := pk_div (a := a * a * bn) (d := 100) (by omega) (by decide) (by decide)
  rw [e2]
  exact nI_pos (by omega)
theorem ru_34 {P : PSt} (h : PB P) : P.2.2.2.2.2 3 ≤ 9 ∧ P.2.2.2.2.2 4 ≤ 4 := ⟨h 3 (by decide), h 4 (by decide)⟩
theorem lw_wm {bc bcm w h : Nat} {B1 B2 B5 B6 B7 f3 f4 fs fw : Nat → Int32} {wt wh : Nat → Nat} (e1 : bcm = bc) (e2 : fs = B5) (hw : w ≤ 10) (hh : h ≤ 10) (H : CI bc w h B1 B2 B5 B6 B7 f3 f4 wt wh) (hr : ∀ b, b < bc → B5 b = 1 → fw b = nI (wh b)) : ∀ b, b < bcm → fs b = 1 → fw b = nI (wh b) ∧ wh b < 100 := by
  subst e1; subst e2
  intro b hb s
  have q := CI_where H hb s
  exact ⟨hr b hb s, by omega⟩
end PBND
