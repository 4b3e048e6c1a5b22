section ST3
/-- a rectangle of a row is set to v -/
def soI (i0 j0 i1 j1 : Nat) (v : Int32) (f : Nat → Int32) (c : Nat) : Int32 := if i0 ≤ c % 10 ∧ c % 10 ≤ i1 ∧ j0 ≤ c / 10 ∧ c / 10 ≤ j1 then v else f c
theorem so_s {f g g' : Nat → Int32} {i j i0 i1 j0 : Nat} {v : Int32} (h : ∀ c, g c = if i0 ≤ c % 10 ∧ c % 10 ≤ i1 ∧ j0 ≤ c / 10 ∧ (c / 10 < j ∨ (c / 10 = j ∧ c % 10 < i)) then v else f c) (h0 : i0 ≤ i) (h1 : i ≤ i1) (h2 : j0 ≤ j) (hi : i < 10) {a : Nat} (ha : a = j * 10 + i) (e : g' = upd g a v) : ∀ c, g' c = if i0 ≤ c % 10 ∧ c % 10 ≤ i1 ∧ j0 ≤ c / 10 ∧ (c / 10 < j ∨ (c / 10 = j ∧ c % 10 < i + 1)) then v else f c := by
  intro c
  subst e; subst ha
  by_cases r : c = j * 10 + i
  · subst r
    rw [pk_us, if_pos (by omega)]
  · rw [pk_un r, h c]
    by_cases q : i0 ≤ c % 10 ∧ c % 10 ≤ i1 ∧ j0 ≤ c / 10 ∧ (c / 10 < j ∨ (c / 10 = j ∧ c % 10 < i))
    · rw [if_pos q, if_pos (by omega)]
    · rw [if_neg q, if_neg (by omega)]
theorem so_r {f g : Nat → Int32} {i j i0 i1 j0 : Nat} {v : Int32} (h : ∀ c, g c = if i0 ≤ c % 10 ∧ c % 10 ≤ i1 ∧ j0 ≤ c / 10 ∧ (c / 10 < j ∨ (c / 10 = j ∧ c % 10 < i)) then v else f c) (hi : i1 < i) : ∀ c, g c = if i0 ≤ c % 10 ∧ c % 10 ≤ i1 ∧ j0 ≤ c / 10 ∧ c / 10 < j + 1 then v else f c := by
  intro c
  rw [h c]
  by_cases q : i0 ≤ c % 10 ∧ c % 10 ≤ i1 ∧ j0 ≤ c / 10 ∧ (c / 10 < j ∨ (c / 10 = j ∧ c % 10 < i))
  · rw [if_pos q, if_pos (by omega)]
  · rw [if_neg q, if_neg (by omega)]
theorem so_b {f g : Nat → Int32} {i0 i1 j j0 : Nat} {v : Int32} (h : ∀ c, g c = if i0 ≤ c % 10 ∧ c % 10 ≤ i1 ∧ j0 ≤ c / 10 ∧ c / 10 < j then v else f c) : ∀ c, g c = if i0 ≤ c % 10 ∧ c % 10 ≤ i1 ∧ j0 ≤ c / 10 ∧ (c / 10 < j ∨ (c / 10 = j ∧ c % 10 < i0)) then v else f c := by
  intro c
  rw [h c]
  by_cases q : i0 ≤ c % 10 ∧ c % 10 ≤ i1 ∧ j0 ≤ c / 10 ∧ c / 10 < j
  · rw [if_pos q, if_pos (by omega)]
  · rw [if_neg q, if_neg (by omega)]
theorem so_e {f g : Nat → Int32} {i0 i1 j0 j1 j : Nat} {v : Int32} (h : ∀ c, g c = if i0 ≤ c % 10 ∧ c % 10 ≤ i1 ∧ j0 ≤ c / 10 ∧ c / 10 < j then v else f c) (hj : j1 < j) (hj2 : j ≤ j1 + 1) : g = soI i0 j0 i1 j1 v f := by
  funext c
  unfold soI
  rw [h c]
  by_cases q : i0 ≤ c % 10 ∧ c % 10 ≤ i1 ∧ j0 ≤ c / 10 ∧ c / 10 < j
  · rw [if_pos q, if_pos (by omega)]
  · rw [if_neg q, if_neg (by omega)]
theorem so_0 {f : Nat → Int32} {i0 i1 j0 : Nat} {v : Int32} : ∀ c, f c = if i0 ≤ c % 10 ∧ c % 10 ≤ i1 ∧ j0 ≤ c / 10 ∧ c / 10 < j0 then v else f c := by
  intro c
  rw [if_neg (by omega)]
/-- a row's first n places are v -/
def fiI (n : Nat) (v : Int32) (f : Nat → Int32) (c : Nat) : Int32 := if c < n then v else f c
theorem fi_s {f g g' : Nat → Int32} {i : Nat} {v : Int32} (h : g = fiI i v f) (e : g' = upd g i v) : g' = fiI (i + 1) v f := by
  subst e; subst h
  funext c
  unfold fiI
  by_cases r : c = i
  · subst r; rw [pk_us, if_pos (by omega)]
  · rw [pk_un r]
    by_cases q : c < i
    · rw [if_pos q, if_pos (by omega)]
    · rw [if_neg q, if_neg (by omega)]
theorem fi_0 {f : Nat → Int32} {v : Int32} : f = fiI 0 v f := by
  funext c
  unfold fiI
  rw [if_neg (by omega)]
/-- new ice: the class's state -/
theorem CI_ice {w h : Nat} {B1 B2 B5 B6 B7 f3 f4 : Nat → Int32} {wt wh : Nat → Nat} (h3 : ∀ c, c < 100 → f3 c = 0) (h4 : ∀ c, c < 100 → f4 c = (-1)) (hw : w ≤ 10) (hh : h ≤ 10) : CI 0 w h B1 B2 B5 B6 B7 f3 f4 wt wh :=
  ⟨fun b hb => absurd hb (Nat.not_lt_zero b), fun a b ha => absurd ha (Nat.not_lt_zero a), fun c _ _ => Or.inr ⟨h4 c (by omega), fun b hb => absurd hb (Nat.not_lt_zero b)⟩, fun c _ _ => h3 c (by omega), fun b hb => absurd hb (Nat.not_lt_zero b)⟩
theorem CI_add {bc w h v : Nat} {B1 B2 B5 B6 B7 f3 f4 G1 G2 G5 G6 G7 : Nat → Int32} {wt wh : Nat → Nat} (H : CI bc w h B1 B2 B5 B6 B7 f3 f4 wt wh) (e1 : G1 = upd B1 bc (nI bc)) (e2 : G2 = upd B2 bc (nI v)) (hv : v ≤ 50) (e5 : G5 = upd B5 bc 0) (e6 : G6 = upd B6 bc (-1)) (e7 : G7 = upd B7 bc (-1)) : CI (bc + 1) w h G1 G2 G5 G6 G7 f3 f4 (upN wt bc v) wh := by
  obtain ⟨H1, H2, H3, H4, H5⟩ := H
  subst e1; subst e2; subst e5; subst e6; subst e7
  have n1 : ¬ (0 : Int32) = 1 := by decide
  have nb : ∀ b, b < bc + 1 → upd B5 bc 0 b = 1 → b < bc ∧ B5 b = 1 := by
    intro b hb s
    by_cases r : b = bc
    · subst r; rw [pk_us] at s; exact absurd s n1
    · rw [pk_un r] at s; exact ⟨by omega, s⟩
  refine ⟨fun b hb => ?_, fun a b ha hb sa sb e => ?_, fun c h1 h2 => ?_, fun c h1 h2 => ?_, fun b hb => ?_⟩
  · by_cases r : b = bc
    · subst r
      rw [pk_us, pk_us, pk_us, pk_us]
      exact ⟨rfl, Or.inl rfl, fun q => absurd q n1, fun _ => ⟨rfl, rfl⟩⟩
    · rw [pk_un r, pk_un r, pk_un r, pk_un r]
      exact H1 b (by omega)
  · exact H2 a b (nb a ha sa).1 (nb b hb sb).1 (nb a ha sa).2 (nb b hb sb).2 e
  · rcases H3 c h1 h2 with ⟨b, hb, sb, eb, fb⟩ | ⟨fb, q⟩
    · exact Or.inl ⟨b, by omega, by rw [pk_un (by omega)]; exact sb, eb, fb⟩
    · exact Or.inr ⟨fb, fun b hb sb => q b (nb b hb sb).1 (nb b hb sb).2⟩
  · rw [H4 c h1 h2]
    congr 1
    show _ = strN (upd B5 bc 0) (upN wt bc v) wh c bc + _
    rw [pk_us, if_neg n1, Nat.add_zero]
    exact strN_same bc (fun b hb => ⟨by rw [pk_un (by omega)], fun _ => ⟨(upN_n (by omega)).symm, rfl⟩⟩)
  · by_cases r : b = bc
    · subst r; rw [pk_us, upN_s]; exact ⟨rfl, hv⟩
    · rw [pk_un r, upN_n r]; exact H5 b (by omega)
end ST3
