section ST13
/-- a firm cell -/
def fm (w h : Nat) (lo ck : Nat → Int32) (c : Nat) : Prop := c % 10 < w ∧ c / 10 < h ∧ 0 < lo c ∧ ck c = 0
/-- cells side by side -/
def aj (c d : Nat) : Prop := (c / 10 = d / 10 ∧ (c % 10 + 1 = d % 10 ∨ d % 10 + 1 = c % 10)) ∨ (c % 10 = d % 10 ∧ (c / 10 + 1 = d / 10 ∨ d / 10 + 1 = c / 10))
theorem aj_sym {c d : Nat} (h : aj c d) : aj d c := by
  unfold aj at h ⊢
  omega
/-- a walk of n steps over firm cells to s -/
def wlk (F : Nat → Prop) (s : Nat) : Nat → Nat → Prop
  | 0, c => c = s ∧ F c
  | n + 1, c => F c ∧ ∃ d, aj c d ∧ wlk F s n d
/-- the same from a cell that need not be firm -/
def wlo (F : Nat → Prop) (s : Nat) : Nat → Nat → Prop
  | 0, c => c = s ∧ F c
  | n + 1, c => ∃ d, aj c d ∧ wlk F s n d
theorem wlk_F {F : Nat → Prop} {s : Nat} : ∀ {n c : Nat}, wlk F s n c → F c
  | 0, _, h => h.2
  | _ + 1, _, h => h.1
theorem wlo_F {F : Nat → Prop} {s : Nat} : ∀ {n c : Nat}, F c → (wlo F s n c ↔ wlk F s n c)
  | 0, _, _ => Iff.rfl
  | _ + 1, _, f => ⟨fun h => ⟨f, h⟩, fun h => h.2⟩
theorem wlk_s {F : Nat → Prop} {s : Nat} : ∀ {n c : Nat}, wlk F s n c → F s
  | 0, _, h => h.1 ▸ h.2
  | _ + 1, _, h => by
    obtain ⟨_, d, _, hd⟩ := h
    exact wlk_s hd
/-- what falls by at most one from cell to cell is no more than any walk -/
theorem wlk_low {F : Nat → Prop} {s : Nat} {g : Nat → Nat} (h0 : g s = 0) (h1 : ∀ c d, F c → F d → aj c d → g c ≤ g d + 1) : ∀ {n c : Nat}, wlk F s n c → g c ≤ n
  | 0, c, h => by
    obtain ⟨e, _⟩ := h
    rw [e, h0]
    exact Nat.le_refl 0
  | n + 1, c, h => by
    obtain ⟨f, d, a, hd⟩ := h
    exact Nat.le_trans (h1 c d f (wlk_F hd) a) (Nat.succ_le_succ (wlk_low h0 h1 hd))
def uN (x : Int32) : Nat := x.toInt.toNat
theorem uN_nI {n : Nat} (h : n < 2 ^ 31) : uN (nI n) = n := by
  unfold uN
  rw [nI_toInt h]
  rfl
/-- how many cells have been reached -/
def rcN (t : Nat → Int32) : Nat → Nat
  | 0 => 0
  | n + 1 => rcN t n + (if t n = (-1) then 0 else 1)
theorem rcN_le {t : Nat → Int32} : ∀ n, rcN t n ≤ n
  | 0 => Nat.le_refl 0
  | n + 1 => by
    have q := rcN_le (t := t) n
    show rcN t n + (if t n = (-1) then 0 else 1) ≤ n + 1
    split <;> omega
theorem rcN_full {t : Nat → Int32} : ∀ n, rcN t n = n → ∀ c, c < n → ¬ t c = (-1)
  | 0, _, c, h => absurd h (Nat.not_lt_zero c)
  | n + 1, e, c, h => by
    have q := rcN_le (t := t) n
    have e' : rcN t n + (if t n = (-1) then 0 else 1) = n + 1 := e
    by_cases z : t n = (-1)
    · rw [if_pos z] at e'
      omega
    · rw [if_neg z] at e'
      by_cases y : c = n
      · rw [y]; exact z
      · exact rcN_full n (by omega) c (by omega)
theorem rcN_out {t : Nat → Int32} {c : Nat} {v : Int32} : ∀ n, n ≤ c → rcN (upd t c v) n = rcN t n
  | 0, _ => rfl
  | n + 1, h => by
    show rcN (upd t c v) n + (if upd t c v n = (-1) then 0 else 1) = rcN t n + (if t n = (-1) then 0 else 1)
    rw [rcN_out n (by omega), pk_un (by omega)]
theorem rcN_add {t : Nat → Int32} {c : Nat} {v : Int32} (z : t c = (-1)) (hv : ¬ v = (-1)) : ∀ n, c < n → rcN (upd t c v) n = rcN t n + 1
  | 0, h => absurd h (Nat.not_lt_zero c)
  | n + 1, h => by
    show rcN (upd t c v) n + (if upd t c v n = (-1) then 0 else 1) = rcN t n + (if t n = (-1) then 0 else 1) + 1
    by_cases y : c = n
    · subst y
      rw [rcN_out c (Nat.le_refl c), pk_us, if_neg hv, z, if_pos rfl]
    · rw [rcN_add z hv n (by omega), pk_un (fun q => y q.symm)]
      omega
theorem rcN_0 {t : Nat → Int32} : ∀ n, (∀ c, c < n → t c = (-1)) → rcN t n = 0
  | 0, _ => rfl
  | n + 1, h => by
    show rcN t n + (if t n = (-1) then 0 else 1) = 0
    rw [rcN_0 n (fun c hc => h c (by omega)), h n (by omega), if_pos rfl]
end ST13
