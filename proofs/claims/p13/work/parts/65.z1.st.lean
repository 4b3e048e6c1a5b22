section ST14
def qc (t2 : Nat → Int32) (j : Nat) : Nat := uN (t2 j)
def dq (t1 t2 : Nat → Int32) (j : Nat) : Nat := uN (t1 (qc t2 j))
/-- the queue of the search from a stair: n cells in it, i of them done -/
def BQ (F : Nat → Prop) (s : Nat) (t1 t2 : Nat → Int32) (n i : Nat) : Prop :=
  (∀ j, j < n → qc t2 j < 100 ∧ t2 j = nI (qc t2 j) ∧ F (qc t2 j) ∧ t1 (qc t2 j) = nI (dq t1 t2 j) ∧ dq t1 t2 j ≤ j ∧ wlk F s (dq t1 t2 j) (qc t2 j)) ∧
  (∀ c, c < 100 → t1 c = (-1) ∨ ∃ j, j < n ∧ qc t2 j = c) ∧
  (∀ j k, j ≤ k → k < n → dq t1 t2 j ≤ dq t1 t2 k) ∧
  (∀ j, j < n → i < n → dq t1 t2 j ≤ dq t1 t2 i + 1) ∧
  (∀ j, j < i → j < n → ∀ c, F c → aj (qc t2 j) c → ∃ k, k < n ∧ qc t2 k = c ∧ dq t1 t2 k ≤ dq t1 t2 j + 1) ∧
  rcN t1 100 = n ∧
  (F s → 0 < n ∧ qc t2 0 = s)
theorem BQ_len {F : Nat → Prop} {s n i : Nat} {t1 t2 : Nat → Int32} (H : BQ F s t1 t2 n i) : n ≤ 100 := by
  have q := rcN_le (t := t1) 100
  rw [H.2.2.2.2.2.1] at q
  exact q
/-- a full queue leaves no cell -/
theorem BQ_room {F : Nat → Prop} {s n i c : Nat} {t1 t2 : Nat → Int32} (H : BQ F s t1 t2 n i) (hc : c < 100) (z : t1 c = (-1)) : n < 100 := by
  have q := BQ_len H
  by_cases e : n = 100
  · exact absurd z (rcN_full 100 (by rw [H.2.2.2.2.2.1, e]) c hc)
  · omega
theorem BQ_add {F : Nat → Prop} {s n i c : Nat} {t1 t2 : Nat → Int32} (H : BQ F s t1 t2 n i) (hi : i < n) (hc : c < 100) (f : F c) (z : t1 c = (-1)) (a : aj (qc t2 i) c) : BQ F s (upd t1 c (nI (dq t1 t2 i + 1))) (upd t2 n (nI c)) (n + 1) i := by
  have hn := BQ_room H hc z
  obtain ⟨hA, hB, hC, hE, hG, hN, hS⟩ := H
  have hdi := (hA i hi).2.2.2.2.1
  have q1 : ∀ j, j < n → qc (upd t2 n (nI c)) j = qc t2 j := by
    intro j hj
    unfold qc
    rw [pk_un (by omega)]
  have q2 : qc (upd t2 n (nI c)) n = c := by
    unfold qc
    rw [pk_us]
    exact uN_nI (by omega)
  have nc : ∀ j, j < n → ¬ qc t2 j = c := by
    intro j hj e
    have h1 := (hA j hj).2.2.2.1
    have h2 := (hA j hj).2.2.2.2.1
    rw [e, z] at h1
    exact nI_nm1 (by omega) h1.symm
  have d1 : ∀ j, j < n → dq (upd t1 c (nI (dq t1 t2 i + 1))) (upd t2 n (nI c)) j = dq t1 t2 j := by
    intro j hj
    show uN (upd t1 c (nI (dq t1 t2 i + 1)) (qc (upd t2 n (nI c)) j)) = uN (t1 (qc t2 j))
    rw [q1 j hj, pk_un (nc j hj)]
  have d2 : dq (upd t1 c (nI (dq t1 t2 i + 1))) (upd t2 n (nI c)) n = dq t1 t2 i + 1 := by
    show uN (upd t1 c (nI (dq t1 t2 i + 1)) (qc (upd t2 n (nI c)) n)) = _
    rw [q2, pk_us]
    exact uN_nI (by omega)
  refine ⟨?_, ?_, ?_, ?_, ?_, ?_, ?_⟩
  · intro j hj
    by_cases e : j = n
    · subst e
      rw [d2, q2, pk_us, pk_us]
      exact ⟨hc, rfl, f, rfl, by omega, f, qc t2 i, aj_sym a, (hA i hi).2.2.2.2.2⟩
    · have hj' : j < n := by omega
      rw [d1 j hj', q1 j hj', pk_un e, pk_un (nc j hj')]
      exact hA j hj'
  · intro x hx
    by_cases e : x = c
    · exact Or.inr ⟨n, by omega, by rw [q2, e]⟩
    · rw [pk_un e]
      rcases hB x hx with q | ⟨j, hj, q⟩
      · exact Or.inl q
      · exact Or.inr ⟨j, by omega, by rw [q1 j hj, q]⟩
  · intro j k hjk hk
    by_cases e : k = n
    · subst e
      rw [d2]
      by_cases e2 : j = k
      · subst e2
        rw [d2]
        exact Nat.le_refl _
      · rw [d1 j (by omega)]
        exact hE j (by omega) hi
    · rw [d1 k (by omega), d1 j (by omega)]
      exact hC j k hjk (by omega)
  · intro j hj _
    rw [d1 i hi]
    by_cases e : j = n
    · rw [e, d2]
      exact Nat.le_refl _
    · rw [d1 j (by omega)]
      exact hE j (by omega) hi
  · intro j hj _ x fx ax
    rw [q1 j (by omega)] at ax
    obtain ⟨k, hk, e, l⟩ := hG j hj (by omega) x fx ax
    exact ⟨k, by omega, by rw [q1 k hk, e], by rw [d1 k hk, d1 j (by omega)]; exact l⟩
  · rw [rcN_add z (nI_nm1 (by omega)) 100 hc, hN]
  · intro fs
    obtain ⟨h1, h2⟩ := hS fs
    exact ⟨by omega, by rw [q1 0 h1]; exact h2⟩
theorem BQ_step {F : Nat → Prop} {s n i : Nat} {t1 t2 : Nat → Int32} (hF : ∀ c, F c → c < 100) (H : BQ F s t1 t2 n i) (hi : i < n) (a : ∀ c, F c → aj (qc t2 i) c → ¬ t1 c = (-1)) : BQ F s t1 t2 n (i + 1) := by
  obtain ⟨hA, hB, hC, hE, hG, hN, hS⟩ := H
  refine ⟨hA, hB, hC, ?_, ?_, hN, hS⟩
  · intro j hj h1
    have := hE j hj hi
    have := hC i (i + 1) (Nat.le_succ i) h1
    omega
  · intro j hj hjn c f ac
    by_cases e : j = i
    · subst e
      rcases hB c (hF c f) with q | ⟨k, hk, q⟩
      · exact absurd q (a c f ac)
      · exact ⟨k, hk, q, hE k hk hi⟩
    · exact hG j (by omega) hjn c f ac
theorem BQ_n {F : Nat → Prop} {s : Nat} {t1 t2 : Nat → Int32} (z : ∀ c, c < 100 → t1 c = (-1)) (nf : ¬ F s) : BQ F s t1 t2 0 0 :=
  ⟨fun j h => absurd h (Nat.not_lt_zero j), fun c hc => Or.inl (z c hc), fun _ k _ h => absurd h (Nat.not_lt_zero k), fun j h => absurd h (Nat.not_lt_zero j), fun j h => absurd h (Nat.not_lt_zero j), rcN_0 100 z, fun f => absurd f nf⟩
theorem BQ_1 {F : Nat → Prop} {s : Nat} {t1 t2 : Nat → Int32} (z : ∀ c, c < 100 → t1 c = (-1)) (hs : s < 100) (f : F s) : BQ F s (upd t1 s (nI 0)) (upd t2 0 (nI s)) 1 0 := by
  have q0 : qc (upd t2 0 (nI s)) 0 = s := by
    unfold qc
    rw [pk_us]
    exact uN_nI (by omega)
  have d0 : dq (upd t1 s (nI 0)) (upd t2 0 (nI s)) 0 = 0 := by
    show uN (upd t1 s (nI 0) (qc (upd t2 0 (nI s)) 0)) = 0
    rw [q0, pk_us]
    exact uN_nI (by decide)
  refine ⟨?_, ?_, ?_, ?_, ?_, ?_, ?_⟩
  · intro j hj
    obtain rfl : j = 0 := by omega
    rw [d0, q0, pk_us, pk_us]
    exact ⟨hs, rfl, f, rfl, Nat.le_refl 0, rfl, f⟩
  · intro c hc
    by_cases e : c = s
    · exact Or.inr ⟨0, by decide, by rw [q0, e]⟩
    · rw [pk_un e]
      exact Or.inl (z c hc)
  · intro j k h1 h2
    obtain rfl : k = 0 := by omega
    obtain rfl : j = 0 := by omega
    exact Nat.le_refl _
  · intro j hj _
    obtain rfl : j = 0 := by omega
    omega
  · intro j h
    exact absurd h (Nat.not_lt_zero j)
  · rw [rcN_add (z s hs) (nI_nm1 (by decide)) 100 hs, rcN_0 100 z]
  · exact fun _ => ⟨by decide, q0⟩
theorem BQ_walk {F : Nat → Prop} {s n i : Nat} {t1 t2 : Nat → Int32} (H : BQ F s t1 t2 n i) (hi : n ≤ i) : ∀ m c, wlk F s m c → ∃ j, j < n ∧ qc t2 j = c ∧ dq t1 t2 j ≤ m
  | 0, c, h => by
    obtain ⟨e, f⟩ := h
    subst e
    obtain ⟨h1, h2⟩ := H.2.2.2.2.2.2 f
    exact ⟨0, h1, h2, (H.1 0 h1).2.2.2.2.1⟩
  | m + 1, c, h => by
    obtain ⟨f, d, a, hd⟩ := h
    obtain ⟨j, hj, e, l⟩ := BQ_walk H hi m d hd
    obtain ⟨k, hk, e2, l2⟩ := H.2.2.2.2.1 j (by omega) hj c f (by rw [e]; exact aj_sym a)
    exact ⟨k, hk, e2, by omega⟩
/-- the steps from each cell, as the class has them -/
def stC (F : Nat → Prop) (s : Nat) (t1 : Nat → Int32) : Prop := ∀ c, c < 100 → (t1 c = (-1) ∧ ∀ m, ¬ wlk F s m c) ∨ ∃ m, m ≤ 99 ∧ t1 c = nI m ∧ wlk F s m c ∧ ∀ k, wlk F s k c → m ≤ k
theorem BQ_end {F : Nat → Prop} {s n i : Nat} {t1 t2 : Nat → Int32} (H : BQ F s t1 t2 n i) (hi : n ≤ i) : stC F s t1 := by
  intro c hc
  have hl := BQ_len H
  have hw := BQ_walk H hi
  rcases H.2.1 c hc with z | ⟨j, hj, e⟩
  · refine Or.inl ⟨z, fun m h => ?_⟩
    obtain ⟨j, hj, e, _⟩ := hw m c h
    have h1 := (H.1 j hj).2.2.2.1
    have h2 := (H.1 j hj).2.2.2.2.1
    rw [e, z] at h1
    exact nI_nm1 (by omega) h1.symm
  · have h1 := H.1 j hj
    rw [e] at h1
    have h2 := h1.2.2.2.2.1
    refine Or.inr ⟨dq t1 t2 j, by omega, h1.2.2.2.1, h1.2.2.2.2.2, fun k h => ?_⟩
    obtain ⟨j2, hj2, e2, l2⟩ := hw k c h
    have : dq t1 t2 j2 = dq t1 t2 j := by
      show uN (t1 (qc t2 j2)) = uN (t1 (qc t2 j))
      rw [e2, e]
    omega
end ST14
