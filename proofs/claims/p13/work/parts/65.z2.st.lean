section ST15
/-- r is the least m with P m, -1 where there is none -/
def lsQ (P : Nat → Prop) (K : Nat) (r : Int32) : Prop := (r = (-1) ∧ ∀ m, ¬ P m) ∨ ∃ m, m ≤ K ∧ r = nI m ∧ P m ∧ ∀ k, P k → m ≤ k
/-- the same with 9999 for none below it -/
def lsM (P : Nat → Prop) (r : Int32) : Prop := (r = nI 9999 ∧ ∀ m, P m → 9999 ≤ m) ∨ ∃ m, m < 9999 ∧ r = nI m ∧ P m ∧ ∀ k, P k → m ≤ k
theorem lsQ_iff {P Q : Nat → Prop} {K : Nat} {r : Int32} (e : ∀ m, P m ↔ Q m) (h : lsQ P K r) : lsQ Q K r := by
  rcases h with ⟨a, b⟩ | ⟨m, a, b, c, d⟩
  · exact Or.inl ⟨a, fun m q => b m ((e m).mpr q)⟩
  · exact Or.inr ⟨m, a, b, (e m).mp c, fun k q => d k ((e k).mpr q)⟩
/-- the nearer of two -/
theorem lsQ_l {P Q : Nat → Prop} {K : Nat} {y : Int32} (n : ∀ m, ¬ P m) (b : lsQ Q K y) : lsQ (fun m => P m ∨ Q m) K y := lsQ_iff (fun m => ⟨Or.inr, fun q => q.resolve_left (n m)⟩) b
theorem lsQ_r {P Q : Nat → Prop} {K : Nat} {x : Int32} (n : ∀ m, ¬ Q m) (a : lsQ P K x) : lsQ (fun m => P m ∨ Q m) K x := lsQ_iff (fun m => ⟨Or.inl, fun q => q.resolve_right (n m)⟩) a
theorem lsQ_or {P Q : Nat → Prop} {K i j : Nat} (hi : i ≤ K) (hj : j ≤ K) (pi : P i) (qj : Q j) (li : ∀ k, P k → i ≤ k) (lj : ∀ k, Q k → j ≤ k) : lsQ (fun m => P m ∨ Q m) K (nI (if j ≤ i then j else i)) := by
  refine Or.inr ⟨_, ?_, rfl, ?_, fun k h => ?_⟩
  · split <;> omega
  · split
    · exact Or.inr qj
    · exact Or.inl pi
  · rcases h with h | h
    · have := li k h
      split <;> omega
    · have := lj k h
      split <;> omega
/-- what the reference's search has found from a stair -/
def RI (F : Nat → Prop) (s : Nat) (g : Nat → Int32) : Prop := g s = nI 0 ∧ ∀ c, c < 100 → g c = nI 9999 ∨ ∃ n, n < 9999 ∧ g c = nI n ∧ wlk F s n c
def fxd (F : Nat → Prop) (g : Nat → Int32) (c : Nat) : Prop := F c → ∀ d, F d → aj c d → uN (g c) ≤ uN (g d) + 1
/-- the least beside a cell -/
def bsd (F : Nat → Prop) (g : Nat → Int32) (c q : Nat) : Prop := q ≤ 9999 ∧ (∀ d, F d → aj c d → q ≤ uN (g d)) ∧ (q = 9999 ∨ ∃ d, F d ∧ aj c d ∧ g d = nI q)
theorem RI_upd {F : Nat → Prop} {s c q n : Nat} {g : Nat → Int32} (hF : ∀ c, F c → c < 100) (H : RI F s g) (f : F c) (b : bsd F g c q) (e : g c = nI n) (hn : n ≤ 9999) (l : q + 1 < n) : RI F s (upd g c (nI (q + 1))) := by
  obtain ⟨h0, h1⟩ := H
  refine ⟨?_, fun x hx => ?_⟩
  · by_cases y : s = c
    · subst y
      have := (nI_eq (by decide) (by omega)).mp (h0.symm.trans e)
      omega
    · rw [pk_un y]
      exact h0
  · by_cases y : x = c
    · subst y
      rw [pk_us]
      refine Or.inr ⟨q + 1, by omega, rfl, f, ?_⟩
      rcases b.2.2 with z | ⟨d, fd, a, ed⟩
      · omega
      · refine ⟨d, a, ?_⟩
        rcases h1 d (hF d fd) with z | ⟨k, lk, ek, w⟩
        · have := (nI_eq (by omega) (by decide)).mp (ed.symm.trans z)
          omega
        · have := (nI_eq (by omega) (by omega)).mp (ed.symm.trans ek)
          rw [this]
          exact w
    · rw [pk_un y]
      exact h1 x hx
theorem fxd_of {F : Nat → Prop} {c q n : Nat} {g : Nat → Int32} (b : bsd F g c q) (e : g c = nI n) (hn : n ≤ 9999) (l : n ≤ q + 1) : fxd F g c := by
  intro _ d fd a
  have := b.2.1 d fd a
  rw [e, uN_nI (by omega)]
  omega
/-- the steps from each cell, as the reference has them -/
def stM (F : Nat → Prop) (s : Nat) (g : Nat → Int32) : Prop := ∀ c, c < 100 → lsM (fun m => wlk F s m c) (g c)
theorem RI_end {F : Nat → Prop} {s : Nat} {g : Nat → Int32} (H : RI F s g) (h : ∀ c, F c → fxd F g c) : stM F s g := by
  intro c hc
  have low : ∀ {m c : Nat}, wlk F s m c → uN (g c) ≤ m := wlk_low (g := fun c => uN (g c)) (by show uN (g s) = 0; rw [H.1]; exact uN_nI (by decide)) (fun c d fc fd a => h c fc fc d fd a)
  rcases H.2 c hc with e | ⟨n, l, e, w⟩
  · refine Or.inl ⟨e, fun m q => ?_⟩
    have := low q
    rw [e, uN_nI (by decide)] at this
    exact this
  · refine Or.inr ⟨n, l, e, w, fun k q => ?_⟩
    have := low q
    rw [e, uN_nI (by omega)] at this
    exact this
theorem RI_0 {F : Nat → Prop} {s : Nat} {g : Nat → Int32} (z : ∀ c, c < 100 → g c = nI 9999) (f : F s) : RI F s (upd g s (nI 0)) := by
  refine ⟨pk_us, fun c hc => ?_⟩
  by_cases e : c = s
  · subst e
    exact Or.inr ⟨0, by decide, pk_us, rfl, f⟩
  · rw [pk_un e]
    exact Or.inl (z c hc)
/-- the reference's steps of a booth -/
theorem lsM_off {F : Nat → Prop} {s c q : Nat} {g : Nat → Int32} (hF : ∀ c, F c → c < 100) (H : stM F s g) (b : bsd F g c q) (n : ¬ c = s) : lsM (fun m => wlo F s m c) (nI (if 9999 < q + 1 then 9999 else q + 1)) := by
  have low : ∀ m, wlo F s m c → q + 1 ≤ m := by
    intro m h
    cases m with
    | zero => exact absurd h.1 n
    | succ k =>
      obtain ⟨d, a, w⟩ := h
      have h1 := b.2.1 d (wlk_F w) a
      rcases H d (hF d (wlk_F w)) with ⟨e, l⟩ | ⟨j, lj, e, _, l⟩
      · have := l k w
        have := b.1
        omega
      · have := l k w
        rw [e, uN_nI (by omega)] at h1
        omega
  by_cases h : q + 1 < 9999
  · rw [if_neg (by omega)]
    refine Or.inr ⟨q + 1, h, rfl, ?_, low⟩
    rcases b.2.2 with z | ⟨d, fd, a, ed⟩
    · omega
    · refine ⟨d, a, ?_⟩
      rcases H d (hF d fd) with ⟨e, _⟩ | ⟨j, lj, e, w, _⟩
      · have := (nI_eq (by omega) (by decide)).mp (ed.symm.trans e)
        omega
      · have := (nI_eq (by omega) (by omega)).mp (ed.symm.trans e)
        rw [this]
        exact w
  · refine Or.inl ⟨by split <;> congr 1 <;> omega, fun m p => ?_⟩
    have := low m p
    omega
theorem lsM_no {F : Nat → Prop} {s c : Nat} (n : ¬ F s) : lsM (fun m => wlo F s m c) (nI 9999) := by
  refine Or.inl ⟨rfl, fun m h => ?_⟩
  cases m with
  | zero => exact absurd (h.1 ▸ h.2) n
  | succ k =>
    obtain ⟨d, _, w⟩ := h
    exact absurd (wlk_s w) n
theorem lsM_at {F : Nat → Prop} {s : Nat} (f : F s) : lsM (fun m => wlo F s m s) (nI 0) := Or.inr ⟨0, by decide, rfl, ⟨rfl, f⟩, fun _ _ => Nat.zero_le _⟩
/-- the class's steps of a booth, where its cell is reached itself -/
theorem lsQ_at {F : Nat → Prop} {s c : Nat} {t : Nat → Int32} (H : stC F s t) (hc : c < 100) (n : ¬ t c = (-1)) : lsQ (fun m => wlo F s m c) 100 (t c) := by
  rcases H c hc with ⟨e, _⟩ | ⟨m, l, e, w, q⟩
  · exact absurd e n
  · have f := wlk_F w
    exact Or.inr ⟨m, by omega, e, (wlo_F f).mpr w, fun k h => q k ((wlo_F f).mp h)⟩
/-- and where only cells beside it are -/
theorem lsQ_off {F : Nat → Prop} {s c : Nat} {t : Nat → Int32} {r : Int32} (H : stC F s t) (hc : c < 100) (z : t c = (-1)) (a : lsQ (fun m => ∃ d, aj c d ∧ wlk F s m d) 99 r) : lsQ (fun m => wlo F s m c) 100 (if r = (-1) then (-1) else r + 1) := by
  have n0 : ¬ wlo F s 0 c := by
    intro h
    rcases H c hc with ⟨_, q⟩ | ⟨m, l, e, _⟩
    · exact q 0 h
    · exact nI_nm1 (by omega) (e.symm.trans z)
  rcases a with ⟨e, q⟩ | ⟨m, l, e, p, q⟩
  · rw [if_pos e]
    refine Or.inl ⟨rfl, fun m h => ?_⟩
    cases m with
    | zero => exact n0 h
    | succ k => exact q k h
  · rw [if_neg (fun h => nI_nm1 (by omega) (e.symm.trans h)), e]
    refine Or.inr ⟨m + 1, by omega, nI_add m 1, p, fun k h => ?_⟩
    cases k with
    | zero => exact absurd h n0
    | succ j => exact Nat.succ_le_succ (q j h)
end ST15
