section ST18
/-- the stairs' numbers keep their bounds -/
def SB (P : PSt) : Prop := ∀ q, q < P.2.1 → P.2.2.1 q ≤ 9 ∧ P.2.2.2.1 q ≤ 9 ∧ 1 ≤ P.2.2.2.2.1 q ∧ P.2.2.2.2.1 q ≤ 9
theorem numsF_c {f : Nat → Int32} {n w : Nat} {dup : Nat → Nat → Bool} : ∀ k j i fp v, (numsF f n w dup k j i fp v).1 = 0 → (∀ q, q < j → nLo w q ≤ v q) → ∀ q, q < j + k → nLo w q ≤ (numsF f n w dup k j i fp v).2.2.2 q := by
  intro k
  induction k with
  | zero => intro j i fp v _ h q hq; exact h q (by omega)
  | succ k ih =>
    intro j i fp v h0 h q hq
    by_cases h2 : tK f n (tS f n i) = 2
    · by_cases hb : tV f n (tS f n i) < nLo w j ∨ mxN w < tV f n (tS f n i)
      · rw [num_bey rfl rfl h2 rfl hb] at h0
        exact absurd h0 (Nat.succ_ne_zero _)
      · by_cases hd : w = 6 ∧ j = 1 ∧ dup (v 0) (tV f n (tS f n i)) = true
        · rw [num_dup rfl rfl h2 rfl hb hd.1 hd.2.1 hd.2.2] at h0
          exact absurd h0 (Nat.succ_ne_zero _)
        · rw [num_go rfl rfl h2 rfl rfl hb hd] at h0 ⊢
          refine ih (j + 1) _ _ _ h0 (fun q hq => ?_) q (by omega)
          by_cases r : q = j
          · subst r; rw [upN_s]; omega
          · rw [upN_n r]; exact h q (by omega)
    · rw [num_bad rfl rfl h2] at h0
      exact absurd h0 (Nat.succ_ne_zero _)
theorem LB_line {f : Nat → Int32} {n s : Nat} {P : PSt} (h : (lineF f n P s).1 = 0) : ∀ q, q < nuN (lineF f n P s).2.2.2.1 → nLo (lineF f n P s).2.2.2.1 q ≤ (lineF f n P s).2.2.2.2 q := by
  by_cases h1 : tK f n s = 1 ∧ wI f s (tN f n s) < 7
  · by_cases h2 : wI f s (tN f n s) = 6 ∧ 4 ≤ P.2.1
    · rw [line_2 h1 h2.1 h2.2] at h; exact absurd h (Nat.succ_ne_zero _)
    · by_cases h3 : P.1 (wI f s (tN f n s)) = true
      · rw [line_3 h1 h2 h3] at h; exact absurd h (Nat.succ_ne_zero _)
      · rw [line_go h1 h2 h3] at h ⊢
        generalize hw : wI f s (tN f n s) = w at *
        have hb := numsF_c (f := f) (n := n) (w := w) (dup := cDup P.2.2.1 P.2.2.2.1 P.2.1) (nuN w) 0 (tN f n s) (tN f n s) (fun _ => 0)
        generalize numsF f n w (cDup P.2.2.1 P.2.2.2.1 P.2.1) (nuN w) 0 (tN f n s) (tN f n s) (fun _ => 0) = R at *
        unfold semiF at h ⊢
        by_cases r : R.1 = 0
        · rw [if_pos r] at h ⊢
          by_cases r3 : tK f n (tS f n R.2.2.1) = 3
          · rw [if_pos r3]
            exact fun q hq => hb r (fun q hq => absurd hq (Nat.not_lt_zero q)) q (by show q < 0 + nuN w; have : q < nuN w := hq; omega)
          · rw [if_neg r3] at h; exact absurd h (Nat.succ_ne_zero _)
        · rw [if_neg r] at h; exact absurd h r
  · rw [line_bad h1] at h; exact absurd h (Nat.succ_ne_zero _)
theorem SB_0 : SB PSt0 := fun q hq => absurd hq (Nat.not_lt_zero q)
theorem SB_step {P : PSt} {w : Nat} {v : Nat → Nat} (h : SB P) (hv : ∀ q, q < nuN w → v q ≤ mxN w) (hl : ∀ q, q < nuN w → nLo w q ≤ v q) : SB (stepF P w v) := by
  intro q hq
  by_cases h6 : w = 6
  · have e : stepF P w v = (P.1, P.2.1 + 1, upN P.2.2.1 P.2.1 (v 0), upN P.2.2.2.1 P.2.1 (v 1), upN P.2.2.2.2.1 P.2.1 (v 2), P.2.2.2.2.2) := if_pos h6
    rw [e] at hq ⊢
    have hq' : q < P.2.1 + 1 := hq
    show upN P.2.2.1 P.2.1 (v 0) q ≤ 9 ∧ upN P.2.2.2.1 P.2.1 (v 1) q ≤ 9 ∧ 1 ≤ upN P.2.2.2.2.1 P.2.1 (v 2) q ∧ upN P.2.2.2.2.1 P.2.1 (v 2) q ≤ 9
    by_cases r : q = P.2.1
    · subst h6
      rw [r, upN_s, upN_s, upN_s]
      have a0 : v 0 ≤ 9 := hv 0 (by decide)
      have a1 : v 1 ≤ 9 := hv 1 (by decide)
      have a2 : v 2 ≤ 9 := hv 2 (by decide)
      have a3 : 1 ≤ v 2 := hl 2 (by decide)
      exact ⟨a0, a1, a3, a2⟩
    · rw [upN_n r, upN_n r, upN_n r]
      exact h q (by omega)
  · have e : stepF P w v = ((fun q => if q = w then true else P.1 q), P.2.1, P.2.2.1, P.2.2.2.1, P.2.2.2.2.1, (fun q => if slN w ≤ q ∧ q < slN w + nuN w then v (q - slN w) else P.2.2.2.2.2 q)) := if_neg h6
    rw [e] at hq ⊢
    exact h q hq
theorem SB_par {f : Nat → Int32} {n : Nat} : ∀ k i m P, SB P → (parF f n k i m P).1 = 0 → SB (parF f n k i m P).2.2.2 := by
  intro k
  induction k with
  | zero => intro i m P h _; exact h
  | succ k ih =>
    intro i m P h h0
    by_cases h1 : tK f n (tS f n i) = 0
    · rw [par_0 rfl h1]; exact h
    · by_cases h2 : (lineF f n P (tS f n i)).1 = 0
      · rw [par_go rfl h1 h2] at h0 ⊢
        have hl := PB_line h2
        exact ih _ _ _ (SB_step h hl.2 (LB_line h2)) h0
      · rw [par_f rfl h1 h2] at h0; exact absurd h0 h2
theorem SB_cu {tf : Nat → Int32} {ln : Nat} {x : Int32} {P : PSt} (h : SB P) : SB (cuP tf ln x P) := by
  unfold cuP
  split
  · exact h
  · split
    · rename_i q; exact SB_par _ _ _ _ SB_0 q
    · exact h
/-- the stairs' cells -/
def spN (P : PSt) (q : Nat) : Nat := 10 * P.2.2.2.1 q + P.2.2.1 q
theorem sp_C {P : PSt} {c1 c2 c3 c4 : Nat → Int32} {sc : Int32} (K : Kc P c1 c2 c3 c4 sc) (B : SB P) : ∀ q, q < P.2.1 → c2 q = nI (spN P q % 10) ∧ c3 q = nI (spN P q / 10) ∧ spN P q < 100 := by
  intro q hq
  have k := K.2.2.1 q hq
  have b := B q hq
  have e1 : spN P q % 10 = P.2.2.1 q := by unfold spN; omega
  have e2 : spN P q / 10 = P.2.2.2.1 q := by unfold spN; omega
  rw [e1, e2]
  exact ⟨k.1, k.2.1, by unfold spN; omega⟩
theorem sp_M {P : PSt} {sn : Nat} {fr fs : Nat → Int32} (K : Km P sn fr fs) (B : SB P) : ∀ q, q < sn → fs (2 * q) = nI (spN P q) ∧ spN P q < 100 := by
  intro q hq
  rw [K.1] at hq
  have b := B q hq
  exact ⟨(K.2.2.1 q hq).1, by unfold spN; omega⟩
end ST18
section ST19
theorem a1_s {f g : Nat → Int32} {i : Nat} (h : ∀ c, c < i → f c = (-1)) (e : g = upd f i (-1)) : ∀ c, c < i + 1 → g c = (-1) := by
  intro c hc
  subst e
  by_cases r : c = i
  · subst r; exact pk_us
  · rw [pk_un r]; exact h c (by omega)
theorem BQ_at {F : Nat → Prop} {s n i : Nat} {t1 t2 : Nat → Int32} (H : BQ F s t1 t2 n i) (hi : i < n) : ∃ c d, c < 100 ∧ d ≤ 99 ∧ t2 i = nI c ∧ t1 c = nI d ∧ qc t2 i = c ∧ dq t1 t2 i = d := by
  have h := H.1 i hi
  have l := BQ_len H
  exact ⟨qc t2 i, dq t1 t2 i, h.1, by have := h.2.2.2.2.1; omega, h.2.1, h.2.2.2.1, rfl, rfl⟩
theorem fm_100 {w h : Nat} {lo ck : Nat → Int32} (hw : w ≤ 10) (hh : h ≤ 10) : ∀ c, fm w h lo ck c → c < 100 := by
  intro c f
  have h1 := f.1
  have h2 := f.2.1
  omega
theorem fm_in {w h : Nat} {lo ck : Nat → Int32} : ∀ c, fm w h lo ck c → c % 10 < w ∧ c / 10 < h := fun c f => ⟨f.1, f.2.1⟩
theorem BQ_reach {w h s n i c d n' : Nat} {lo ck t1 t2 u1 u2 : Nat → Int32} {x y : Int32} (hw : w ≤ 10) (hh : h ≤ 10) (H : BQ (fm w h lo ck) s t1 t2 n i) (hi : i < n) (hq : qc t2 i = c) (hd : dq t1 t2 i = d) (hb : d ≤ 99) (a : ∀ e : Nat, ((e % 10 : Nat) : Int) = x.toInt → ((e / 10 : Nat) : Int) = y.toInt → aj c e)
    (p : (u1 = t1 ∧ u2 = t2 ∧ n' = n ∧ ((¬ (x < 0 ∨ ¬ x < nI w ∨ y < 0 ∨ ¬ y < nI h) ∧ 0 < lo (cl x y) ∧ ck (cl x y) = 0) → (¬ t1 (cl x y) = (-1)) ∨ 100 ≤ n)) ∨ ((¬ (x < 0 ∨ ¬ x < nI w ∨ y < 0 ∨ ¬ y < nI h) ∧ 0 < lo (cl x y) ∧ ck (cl x y) = 0) ∧ t1 (cl x y) = (-1) ∧ u1 = upd t1 (cl x y) (nI (d + 1)) ∧ u2 = upd t2 n (nI (cl x y)) ∧ n' = n + 1 ∧ n < 100)) :
    BQ (fm w h lo ck) s u1 u2 n' i ∧ i < n' ∧ qc u2 i = c ∧ dq u1 u2 i = d ∧ (∀ e, ¬ t1 e = (-1) → ¬ u1 e = (-1)) ∧ (∀ e, fm w h lo ck e → ((e % 10 : Nat) : Int) = x.toInt → ((e / 10 : Nat) : Int) = y.toInt → ¬ u1 e = (-1)) := by
  rcases p with ⟨e1, e2, e3, k⟩ | ⟨⟨o, f1, f2⟩, z, e1, e2, e3, l⟩
  · subst e1; subst e2; subst e3
    refine ⟨H, hi, hq, hd, fun _ q => q, fun e fe x1 x2 z => ?_⟩
    have hc : cl x y = e := by unfold cl; omega
    have h1 := fe.1
    have h2 := fe.2.1
    rw [hc] at k
    rcases k ⟨fun o => by have := out_z hw hh o; omega, fe.2.2.1, fe.2.2.2⟩ with q | q
    · exact q z
    · have := BQ_room H (fm_100 hw hh e fe) z
      omega
  · obtain ⟨i1, hi1, ei⟩ : ∃ j : Nat, j < w ∧ x = nI j := n_lt (fun q => o (Or.inl q)) (fun q => o (Or.inr (Or.inl (Int32.not_lt.mpr q)))) (by omega)
    obtain ⟨j1, hj1, ej⟩ : ∃ j : Nat, j < h ∧ y = nI j := n_lt (fun q => o (Or.inr (Or.inr (Or.inl q)))) (fun q => o (Or.inr (Or.inr (Or.inr (Int32.not_lt.mpr q))))) (by omega)
    have zi := in_z ei (by omega)
    have zj := in_z ej (by omega)
    have hc : cl x y = j1 * 10 + i1 := by rw [ei, ej]; exact cl_nI (by omega) (by omega)
    rw [hc] at f1 f2 z e1 e2
    have fv : fm w h lo ck (j1 * 10 + i1) := ⟨by omega, by omega, f1, f2⟩
    have hB := BQ_add H hi (by omega) fv z (by rw [hq]; exact a _ (by omega) (by omega))
    rw [hd, ← e1, ← e2, ← e3] at hB
    have hcv : ¬ c = j1 * 10 + i1 := by
      intro q
      have h1 := (H.1 i hi).2.2.2.1
      rw [hq, hd, q, z] at h1
      exact nI_nm1 (by omega) h1.symm
    have q1 : qc u2 i = c := by
      rw [e2]
      show uN (upd t2 n (nI (j1 * 10 + i1)) i) = c
      rw [pk_un (by omega)]
      exact hq
    have q2 : dq u1 u2 i = d := by
      show uN (u1 (qc u2 i)) = d
      rw [q1, e1, pk_un hcv, ← hq]
      exact hd
    refine ⟨hB, by omega, q1, q2, fun e q => ?_, fun e fe x1 x2 => ?_⟩
    · rw [e1]
      by_cases r : e = j1 * 10 + i1
      · rw [r, pk_us]; exact nI_nm1 (by omega)
      · rw [pk_un r]; exact q
    · rw [e1, show e = j1 * 10 + i1 by omega, pk_us]
      exact nI_nm1 (by omega)
theorem BQ_start {w h s n' : Nat} {lo ck t1 t2 u1 u2 : Nat → Int32} {x y : Int32} (hs : s < 100) (hw : w ≤ 10) (hh : h ≤ 10) (ex : x = nI (s % 10)) (ey : y = nI (s / 10)) (zz : ∀ c, c < 100 → t1 c = (-1))
    (p : (u1 = t1 ∧ u2 = t2 ∧ n' = 0 ∧ ((¬ (x < 0 ∨ ¬ x < nI w ∨ y < 0 ∨ ¬ y < nI h) ∧ 0 < lo (cl x y) ∧ ck (cl x y) = 0) → (¬ t1 (cl x y) = (-1)) ∨ 100 ≤ 0)) ∨ ((¬ (x < 0 ∨ ¬ x < nI w ∨ y < 0 ∨ ¬ y < nI h) ∧ 0 < lo (cl x y) ∧ ck (cl x y) = 0) ∧ t1 (cl x y) = (-1) ∧ u1 = upd t1 (cl x y) 0 ∧ u2 = upd t2 0 (nI (cl x y)) ∧ n' = 0 + 1 ∧ 0 < 100)) : BQ (fm w h lo ck) s u1 u2 n' 0 := by
  have hc : cl x y = s := by rw [ex, ey, cl_nI (by omega) (by omega)]; omega
  rw [hc] at p
  rcases p with ⟨e1, e2, e3, k⟩ | ⟨⟨o, f1, f2⟩, z, e1, e2, e3, l⟩
  · subst e1; subst e2; subst e3
    refine BQ_n zz (fun f => ?_)
    rcases k ⟨by rw [ex, ey]; exact out_in f.1 f.2.1 hw hh, f.2.2.1, f.2.2.2⟩ with q | q
    · exact q (zz s hs)
    · exact absurd q (by decide)
  · obtain ⟨i1, hi1, ei⟩ : ∃ j : Nat, j < w ∧ x = nI j := n_lt (fun q => o (Or.inl q)) (fun q => o (Or.inr (Or.inl (Int32.not_lt.mpr q)))) (by omega)
    obtain ⟨j1, hj1, ej⟩ : ∃ j : Nat, j < h ∧ y = nI j := n_lt (fun q => o (Or.inr (Or.inr (Or.inl q)))) (fun q => o (Or.inr (Or.inr (Or.inr (Int32.not_lt.mpr q))))) (by omega)
    have h1 : s % 10 = i1 := (nI_eq (by omega) (by omega)).mp (ex.symm.trans ei)
    have h2 : s / 10 = j1 := (nI_eq (by omega) (by omega)).mp (ey.symm.trans ej)
    rw [e1, e2, e3]
    exact BQ_1 zz hs ⟨by omega, by omega, f1, f2⟩
/-- all four beside are reached: the next of the queue -/
theorem BQ_four {w h s n i c : Nat} {lo ck t1 t2 : Nat → Int32} {x1 x2 y1 y2 x y : Int32} (hw : w ≤ 10) (hh : h ≤ 10) (H : BQ (fm w h lo ck) s t1 t2 n i) (hi : i < n) (hq : qc t2 i = c) (zx : ((c % 10 : Nat) : Int) = x.toInt) (zy : ((c / 10 : Nat) : Int) = y.toInt) (z1 : x1.toInt = ((c % 10 : Nat) : Int) - 1) (z2 : x2.toInt = ((c % 10 : Nat) : Int) + 1) (z3 : y1.toInt = ((c / 10 : Nat) : Int) - 1) (z4 : y2.toInt = ((c / 10 : Nat) : Int) + 1)
    (a1 : ∀ e, fm w h lo ck e → ((e % 10 : Nat) : Int) = x1.toInt → ((e / 10 : Nat) : Int) = y.toInt → ¬ t1 e = (-1))
    (a2 : ∀ e, fm w h lo ck e → ((e % 10 : Nat) : Int) = x2.toInt → ((e / 10 : Nat) : Int) = y.toInt → ¬ t1 e = (-1))
    (a3 : ∀ e, fm w h lo ck e → ((e % 10 : Nat) : Int) = x.toInt → ((e / 10 : Nat) : Int) = y1.toInt → ¬ t1 e = (-1))
    (a4 : ∀ e, fm w h lo ck e → ((e % 10 : Nat) : Int) = x.toInt → ((e / 10 : Nat) : Int) = y2.toInt → ¬ t1 e = (-1)) : BQ (fm w h lo ck) s t1 t2 n (i + 1) := by
  refine BQ_step (fm_100 hw hh) H hi (fun e fe a => ?_)
  rw [hq] at a
  unfold aj at a
  rcases a with ⟨q, a | a⟩ | ⟨q, a | a⟩
  · exact a2 e fe (by omega) (by omega)
  · exact a1 e fe (by omega) (by omega)
  · exact a4 e fe (by omega) (by omega)
  · exact a3 e fe (by omega) (by omega)
end ST19
