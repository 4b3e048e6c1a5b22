section ST8
theorem upd_id {f : Nat → Int32} {b : Nat} {v : Int32} (h : f b = v) : upd f b v = f := by
  funext q
  by_cases r : q = b
  · subst r; rw [pk_us, h]
  · rw [pk_un r]
section
variable {wa : Nat → Nat} {mn t kk : Nat} {st0 B5 G5 G' : Nat → Int32}
theorem lb_0 (h : lyS wa mn kk st0 B5) : (∀ j, j < mn → (j < 0 → B5 (wa j) = 0) ∧ (B5 (wa j) = 0 ∨ B5 (wa j) = 1)) ∧ ∀ b, (∀ j, j < mn → ¬ wa j = b) → B5 b = st0 b := by
  refine ⟨fun j hj => ⟨fun q => absurd q (Nat.not_lt_zero j), ?_⟩, h.2⟩
  rw [h.1 j hj]
  split
  · exact Or.inr rfl
  · exact Or.inl rfl
theorem lb_s (hi : ∀ a b, a < mn → b < mn → wa a = wa b → a = b) (h : (∀ j, j < mn → (j < t → G5 (wa j) = 0) ∧ (G5 (wa j) = 0 ∨ G5 (wa j) = 1)) ∧ ∀ b, (∀ j, j < mn → ¬ wa j = b) → G5 b = st0 b) (ht : t < mn) (e : G' = upd G5 (wa t) 0) : (∀ j, j < mn → (j < t + 1 → G' (wa j) = 0) ∧ (G' (wa j) = 0 ∨ G' (wa j) = 1)) ∧ ∀ b, (∀ j, j < mn → ¬ wa j = b) → G' b = st0 b := by
  subst e
  refine ⟨fun j hj => ?_, fun b hb => ?_⟩
  · by_cases r : j = t
    · subst r; rw [pk_us]; exact ⟨fun _ => rfl, Or.inl rfl⟩
    · rw [pk_un (fun e => r (hi j t hj ht e))]
      exact ⟨fun q => (h.1 j hj).1 (by omega), (h.1 j hj).2⟩
  · rw [pk_un (fun e => hb t ht e.symm)]; exact h.2 b hb
theorem lb_e (h : (∀ j, j < mn → (j < mn → G5 (wa j) = 0) ∧ (G5 (wa j) = 0 ∨ G5 (wa j) = 1)) ∧ ∀ b, (∀ j, j < mn → ¬ wa j = b) → G5 b = st0 b) : lyS wa mn 0 st0 G5 :=
  ⟨fun j hj => by rw [if_neg (Nat.not_lt_zero j)]; exact (h.1 j hj).1 hj, h.2⟩
end
section
variable {PO : Nat → Bool} {t c : Nat} {tc : Nat → Nat} {l5 m5 m6 : Nat → Int32}
theorem tr_y (h : ∀ j, j ≤ t → j < 10 → tc j ≤ 100 ∧ l5 j + 1 = nI (cP PO (tc j))) (hp : PO c = true) (hc : c < 100) (ht : t < 10) (e1 : m5 = upd l5 t (nI (cP PO c))) (e2 : (m6 = upd m5 (t + 1) (-1)) ∨ (10 ≤ t + 1 ∧ m6 = m5)) : ∀ j, j ≤ t + 1 → j < 10 → upN (upN tc t (c + 1)) (t + 1) 0 j ≤ 100 ∧ m6 j + 1 = nI (cP PO (upN (upN tc t (c + 1)) (t + 1) 0 j)) := by
  intro j h1 h2
  subst e1
  by_cases r : j = t + 1
  · subst r
    rw [upN_s]
    rcases e2 with e2 | ⟨q, _⟩
    · subst e2
      rw [pk_us]
      exact ⟨by omega, by show (-1 : Int32) + 1 = nI 0; decide⟩
    · omega
  · have e3 : m6 j = upd l5 t (nI (cP PO c)) j := by
      rcases e2 with e2 | ⟨_, e2⟩
      · rw [e2, pk_un r]
      · rw [e2]
    rw [e3, upN_n r]
    by_cases r2 : j = t
    · subst r2
      rw [pk_us, upN_s, cP_y hp]
      exact ⟨by omega, nI_add _ 1⟩
    · rw [pk_un r2, upN_n r2]
      exact h j (by omega) h2
end
section
variable {bc w h b c : Nat} {B1 B2 B5 B6 B7 G5 G6 G7 f1 f3 f4 f5 g3 g4 : Nat → Int32} {wt wh wh' : Nat → Nat} {PO : Nat → Bool}
theorem pc_put (hbc : bc ≤ 10) (H : CI bc w h B1 B2 B5 B6 B7 f3 f4 wt wh) (H' : CI bc w h B1 B2 G5 G6 G7 g3 g4 wt (upN wh b c)) (h0 : ¬ B5 b = 1) (e : G5 = upd B5 b 1) (hp : ∀ c, (c % 10 < w ∧ c / 10 < h) → 0 < f1 c → f5 c = 0 → f4 c = (-1) → PO c = true) : ∀ c, (c % 10 < w ∧ c / 10 < h) → 0 < f1 c → f5 c = 0 → g4 c = (-1) → PO c = true := by
  intro a ha h1 h5 h4
  refine hp a ha h1 h5 ?_
  rcases H.2.2.1 a ha.1 ha.2 with ⟨d, hd, sd, ed, fd⟩ | ⟨q, _⟩
  · exfalso
    have rd : ¬ d = b := fun r => h0 (r ▸ sd)
    rcases H'.2.2.1 a ha.1 ha.2 with ⟨q, hq, sq, eq, fq⟩ | ⟨_, q⟩
    · rw [h4] at fq
      exact nI_nm1 (by omega) fq.symm
    · refine q d hd ?_ ?_
      · rw [e, pk_un rd]; exact sd
      · rw [upN_n rd]; exact ed
  · exact q
theorem pc_lift (hbc : bc ≤ 10) (H : CI bc w h B1 B2 B5 B6 B7 f3 f4 wt wh) (H' : CI bc w h B1 B2 G5 G6 G7 g3 g4 wt wh) (h0 : B5 b = 1) (e : G5 = upd B5 b 0) (hp : ∀ c, (c % 10 < w ∧ c / 10 < h) → 0 < f1 c → f5 c = 0 → f4 c = (-1) → PO c = true) (hb : PO (wh b) = true) : ∀ c, (c % 10 < w ∧ c / 10 < h) → 0 < f1 c → f5 c = 0 → g4 c = (-1) → PO c = true := by
  intro a ha h1 h5 h4
  rcases H.2.2.1 a ha.1 ha.2 with ⟨d, hd, sd, ed, fd⟩ | ⟨q, _⟩
  · by_cases rd : d = b
    · subst rd; rw [← ed]; exact hb
    · exfalso
      rcases H'.2.2.1 a ha.1 ha.2 with ⟨q, hq, sq, eq, fq⟩ | ⟨_, q⟩
      · rw [h4] at fq
        exact nI_nm1 (by omega) fq.symm
      · exact q d hd (by rw [e, pk_un rd]; exact sd) ed
  · exact hp a ha h1 h5 q
theorem pw_put {wa : Nat → Nat} {mn t : Nat} (hi : ∀ a b, a < mn → b < mn → wa a = wa b → a = b) (hp : ∀ j, j < t → PO (wh (wa j)) = true) (hc : PO c = true) (ht : t < mn) : ∀ j, j < t + 1 → PO (upN wh (wa t) c (wa j)) = true := by
  intro j hj
  by_cases r : j = t
  · subst r; rw [upN_s]; exact hc
  · rw [upN_n (fun e => r (hi j t (by omega) ht e))]; exact hp j (by omega)
theorem CI_wh (H : CI bc w h B1 B2 B5 B6 B7 f3 f4 wt wh) (e : ∀ b, b < bc → B5 b = 1 → wh b = wh' b) : CI bc w h B1 B2 B5 B6 B7 f3 f4 wt wh' := by
  obtain ⟨H1, H2, H3, H4, H5⟩ := H
  refine ⟨fun b hb => ?_, fun a b ha hb sa sb q => H2 a b ha hb sa sb (by rw [e a ha sa, e b hb sb]; exact q), fun c h1 h2 => ?_, fun c h1 h2 => ?_, H5⟩
  · have q := H1 b hb
    refine ⟨q.1, q.2.1, fun s => ?_, q.2.2.2⟩
    rw [← e b hb s]
    exact q.2.2.1 s
  · rcases H3 c h1 h2 with ⟨b, hb, sb, eb, fb⟩ | ⟨fb, q⟩
    · exact Or.inl ⟨b, hb, sb, (e b hb sb).symm.trans eb, fb⟩
    · exact Or.inr ⟨fb, fun b hb sb r => q b hb sb ((e b hb sb).trans r)⟩
  · rw [H4 c h1 h2]
    congr 1
    exact strN_same bc (fun b hb => ⟨Iff.rfl, fun s => ⟨rfl, e b hb s⟩⟩)
end
section
variable {wa tc : Nat → Nat} {my k c : Nat} {gt gt1 gt2 : Nat → Int32}
theorem tm_y (h : ∀ j, j ≤ k → j < my → tc j ≤ 100 ∧ gt j + 1 = nI (tc j)) (hc : c < 100) (hk : k < my) (e1 : gt1 = upd gt k (nI c)) (e2 : (gt2 = upd gt1 (k + 1) (-1)) ∨ (my ≤ k + 1 ∧ gt2 = gt1)) : ∀ j, j ≤ k + 1 → j < my → upN (upN tc k (c + 1)) (k + 1) 0 j ≤ 100 ∧ gt2 j + 1 = nI (upN (upN tc k (c + 1)) (k + 1) 0 j) := by
  intro j h1 h2
  subst e1
  by_cases r : j = k + 1
  · subst r
    rw [upN_s]
    rcases e2 with e2 | ⟨q, _⟩
    · subst e2
      rw [pk_us]
      exact ⟨by omega, by show (-1 : Int32) + 1 = nI 0; decide⟩
    · omega
  · have e3 : gt2 j = upd gt k (nI c) j := by
      rcases e2 with e2 | ⟨_, e2⟩
      · rw [e2, pk_un r]
      · rw [e2]
    rw [e3, upN_n r]
    by_cases r2 : j = k
    · subst r2
      rw [pk_us, upN_s]
      exact ⟨by omega, nI_add _ 1⟩
    · rw [pk_un r2, upN_n r2]
      exact h j (by omega) h2
end
section
variable {bc b c my i : Nat} {st st0 gs g gw gw2 gs2 : Nat → Int32} {wa wh wh0 : Nat → Nat}
theorem wm_y (h : ∀ q, q < bc → st q = 1 → gw q = nI (wh q) ∧ wh q < 100) (hc : c < 100) (e : gs2 = upd st b 1) (e2 : gw2 = upd gw b (nI c)) : ∀ q, q < bc → gs2 q = 1 → gw2 q = nI (upN wh b c q) ∧ upN wh b c q < 100 := by
  intro q hq s
  subst e; subst e2
  by_cases r : q = b
  · subst r; rw [pk_us, upN_s]; exact ⟨rfl, hc⟩
  · rw [pk_un r] at s
    rw [pk_un r, upN_n r]
    exact h q hq s
theorem lz_s (hi : ∀ a b, a < my → b < my → wa a = wa b → a = b) (h : (∀ j, j < my → j < i → gs (wa j) = 0) ∧ ∀ b, (∀ j, j < my → ¬ wa j = b) → gs b = st0 b) (ht : i < my) (e : g = upd gs (wa i) 0) : (∀ j, j < my → j < i + 1 → g (wa j) = 0) ∧ ∀ b, (∀ j, j < my → ¬ wa j = b) → g b = st0 b := by
  subst e
  refine ⟨fun j hj hj2 => ?_, fun b hb => ?_⟩
  · by_cases r : j = i
    · subst r; rw [pk_us]
    · rw [pk_un (fun e => r (hi j i hj ht e))]; exact h.1 j hj (by omega)
  · rw [pk_un (fun e => hb i ht e.symm)]; exact h.2 b hb
theorem lz_e (h0 : ∀ j, j < my → st0 (wa j) = 0) (h : (∀ j, j < my → j < my → gs (wa j) = 0) ∧ ∀ b, (∀ j, j < my → ¬ wa j = b) → gs b = st0 b) : gs = st0 :=
  ly_e (wa := wa) (mn := my) h0 ⟨fun j hj => by rw [if_neg (Nat.not_lt_zero j)]; exact h.1 j hj hj, h.2⟩
theorem wb_280 (h0 : ∀ j, j < my → st0 (wa j) = 0) (hg : gs = st0) (hW : ∀ b, b < bc → gs b = 1 → gw b = nI (wh b) ∧ wh b < 100) (hwo : ∀ b, (∀ j, j < my → ¬ wa j = b) → wh b = wh0 b) : ∀ b, b < bc → st0 b = 1 → gw b = nI (wh0 b) := by
  intro b hb s
  have q := hW b hb (by rw [hg]; exact s)
  rw [← hwo b (fun j hj e => by rw [← e, h0 j hj] at s; exact absurd s (by decide))]
  exact q.1
theorem wb_155 (h0 : ∀ j, j < my → st0 (wa j) = 0) (hl : ∃ kk, lyS wa my kk st0 gs) (hW : ∀ b, b < bc → gs b = 1 → gw b = nI (wh b) ∧ wh b < 100) (hwo : ∀ b, (∀ j, j < my → ¬ wa j = b) → wh b = wh0 b) : ∀ b, b < bc → st0 b = 1 → gw b = nI (wh0 b) := by
  intro b hb s
  obtain ⟨kk, hl⟩ := hl
  have nb : ∀ j, j < my → ¬ wa j = b := fun j hj e => by rw [← e, h0 j hj] at s; exact absurd s (by decide)
  have q := hW b hb (by rw [hl.2 b nb]; exact s)
  rw [← hwo b nb]
  exact q.1
end
end ST8
