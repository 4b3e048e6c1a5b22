section ST20
theorem out_of {i j w h : Nat} (hi : i < 2 ^ 31) (hj : j < 2 ^ 31) (hw : w ≤ 10) (hh : h ≤ 10) (n : ¬ (i < w ∧ j < h)) : nI i < 0 ∨ ¬ nI i < nI w ∨ nI j < 0 ∨ ¬ nI j < nI h := by
  by_cases a : i < w
  · exact Or.inr (Or.inr (Or.inr (fun q => n ⟨a, (nI_ltI hj (by omega)).mp q⟩)))
  · exact Or.inr (Or.inl (fun q => a ((nI_ltI hi (by omega)).mp q)))
/-- the cell that is looked at m-th beside one -/
def nbk (i j m d : Nat) : Prop := (m = 0 ∧ d % 10 = i + 1 ∧ d / 10 = j) ∨ (m = 1 ∧ d % 10 + 1 = i ∧ d / 10 = j) ∨ (m = 2 ∧ d % 10 = i ∧ d / 10 = j + 1) ∨ (m = 3 ∧ d % 10 = i ∧ d / 10 + 1 = j)
/-- a stair's part of the steps -/
def gsN (g : Nat → Int32) (s : Nat) : Nat → Int32 := fun c => g (100 * s + c)
def bsl (F : Nat → Prop) (g : Nat → Int32) (i j k q : Nat) : Prop := q ≤ 9999 ∧ (∀ d m, F d → m < k → nbk i j m d → q ≤ uN (g d)) ∧ (q = 9999 ∨ ∃ d, F d ∧ aj (j * 10 + i) d ∧ g d = nI q)
section
variable {F : Nat → Prop} {g g' : Nat → Int32} {i j k q p D s t c d n : Nat} {sp : Nat → Nat} {v : Int32}
theorem bsl_0 : bsl F g i j 0 9999 := ⟨Nat.le_refl _, fun d m _ h => absurd h (Nat.not_lt_zero m), Or.inl rfl⟩
theorem bsl_n (h : bsl F g i j k q) (n : ∀ d, F d → nbk i j k d → q ≤ uN (g d)) : bsl F g i j (k + 1) q := by
  refine ⟨h.1, fun d m f hm a => ?_, h.2.2⟩
  by_cases r : m = k
  · rw [r] at a; exact n d f a
  · exact h.2.1 d m f (by omega) a
theorem bsl_y (h : bsl F g i j k q) (l : p < q) (e : g D = nI p) (f : F D) (a : aj (j * 10 + i) D) (n : ∀ d, F d → nbk i j k d → d = D) : bsl F g i j (k + 1) p := by
  have hq := h.1
  refine ⟨by omega, fun d m fd hm b => ?_, Or.inr ⟨D, f, a, e⟩⟩
  by_cases r : m = k
  · rw [r] at b
    rw [n d fd b, e, uN_nI (by omega)]
    exact Nat.le_refl _
  · have := h.2.1 d m fd (by omega) b
    omega
theorem bsl_end (hi : i < 10) (h : bsl F g i j 4 q) : bsd F g (j * 10 + i) q := by
  refine ⟨h.1, fun d f a => ?_, h.2.2⟩
  unfold aj at a
  rcases a with ⟨e, a | a⟩ | ⟨e, a | a⟩
  · exact h.2.1 d 0 f (by omega) (Or.inl ⟨rfl, by omega, by omega⟩)
  · exact h.2.1 d 1 f (by omega) (Or.inr (Or.inl ⟨rfl, by omega, by omega⟩))
  · exact h.2.1 d 2 f (by omega) (Or.inr (Or.inr (Or.inl ⟨rfl, by omega, by omega⟩)))
  · exact h.2.1 d 3 f (by omega) (Or.inr (Or.inr (Or.inr ⟨rfl, by omega, by omega⟩)))
theorem gs_s (e : g' = upd g (100 * s + c) v) : gsN g' s = upd (gsN g s) c v := by
  subst e
  funext d
  show upd g (100 * s + c) v (100 * s + d) = upd (gsN g s) c v d
  by_cases r : d = c
  · rw [r, pk_us, pk_us]
  · rw [pk_un (by omega), pk_un r]; rfl
theorem gs_o (e : g' = upd g (100 * s + c) v) (hc : c < 100) (hd : d < 100) (n : ¬ t = s) : gsN g' t d = gsN g t d := by
  subst e
  show upd g (100 * s + c) v (100 * t + d) = g (100 * t + d)
  exact pk_un (by omega)
theorem stM_same (h : stM F s g) (e : ∀ c, c < 100 → g' c = g c) : stM F s g' := by
  intro c hc
  rw [e c hc]
  exact h c hc
/-- the stairs that are done -/
def dnA (F : Nat → Prop) (sp : Nat → Nat) (g : Nat → Int32) (n : Nat) : Prop := ∀ t, t < n → F (sp t) → stM F (sp t) (gsN g t)
theorem dnA_0 : dnA F sp g 0 := fun t h => absurd h (Nat.not_lt_zero t)
theorem dnA_o (h : dnA F sp g s) (e : g' = upd g (100 * s + c) v) (hc : c < 100) : dnA F sp g' s := fun t ht f => stM_same (h t ht f) (fun d hd => gs_o e hc hd (by omega))
theorem dnA_s (h : dnA F sp g s) (k : F (sp s) → stM F (sp s) (gsN g s)) : dnA F sp g (s + 1) := by
  intro t ht f
  by_cases r : t = s
  · rw [r] at f ⊢; exact k f
  · exact h t (by omega) f
/-- those that are not begun -/
def unT (g : Nat → Int32) (s : Nat) : Prop := ∀ c, 100 * s ≤ c → c < 400 → g c = nI 9999
theorem unT_o (h : unT g (s + 1)) (e : g' = upd g (100 * s + c) v) (hc : c < 100) : unT g' (s + 1) := by
  intro d h1 h2
  subst e
  rw [pk_un (by omega)]
  exact h d h1 h2
theorem unT_s (h : unT g s) : unT g (s + 1) := fun d h1 h2 => h d (by omega) h2
theorem a9_s (h : ∀ c, c < i → g c = nI 9999) (e : g' = upd g i 9999) : ∀ c, c < i + 1 → g' c = nI 9999 := by
  intro c hc
  subst e
  by_cases r : c = i
  · rw [r, pk_us]; rfl
  · rw [pk_un r]; exact h c (by omega)
def WI (F : Nat → Prop) (sp : Nat → Nat) (g : Nat → Int32) (s : Nat) : Prop := dnA F sp g s ∧ unT g (s + 1) ∧ RI F (sp s) (gsN g s)
theorem WI_0 (hA : dnA F sp g s) (hU : unT g s) (hs : s < 4) (f : F (sp s)) (h1 : sp s < 100) (e : g' = upd g (100 * s + sp s) 0) : WI F sp g' s := by
  refine ⟨dnA_o hA e h1, unT_o (unT_s hU) e h1, ?_⟩
  rw [gs_s e]
  exact RI_0 (fun c hc => hU _ (by omega) (by omega)) f
theorem WI_upd (hF : ∀ c, F c → c < 100) (H : WI F sp g s) (f : F c) (b : bsd F (gsN g s) c q) (e : gsN g s c = nI n) (hn : n ≤ 9999) (l : q + 1 < n) (eg : g' = upd g (100 * s + c) (nI (q + 1))) : WI F sp g' s := by
  refine ⟨dnA_o H.1 eg (hF c f), unT_o H.2.1 eg (hF c f), ?_⟩
  rw [gs_s eg]
  exact RI_upd hF H.2.2 f b e hn l
theorem WI_end (H : WI F sp g s) (h : ∀ c, F c → fxd F (gsN g s) c) : dnA F sp g (s + 1) ∧ unT g (s + 1) := ⟨dnA_s H.1 (fun _ => RI_end H.2.2 h), H.2.1⟩
theorem pa_s {bc sn b si : Nat} {st gp : Nat → Int32} {Z : Nat → Nat → Nat → Prop} {r : Int32} (h4 : sn ≤ 4) (hs : si < sn) (h : ∀ b' t, b' < bc → st b' = 1 → t < sn → (b' < b ∨ (b' = b ∧ t < si)) → lsM (Z b' t) (gp (4 * b' + t))) (k : lsM (Z b si) r) (e : g' = upd gp (4 * b + si) r) : ∀ b' t, b' < bc → st b' = 1 → t < sn → (b' < b ∨ (b' = b ∧ t < si + 1)) → lsM (Z b' t) (g' (4 * b' + t)) := by
  intro b' t h1 h2 h3 h5
  subst e
  by_cases r9 : b' = b ∧ t = si
  · rw [r9.1, r9.2, pk_us]; exact k
  · rw [pk_un (by omega)]
    exact h b' t h1 h2 h3 (by omega)
end
end ST20
