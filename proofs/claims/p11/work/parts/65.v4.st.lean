section ST6
theorem wb_n {x : Int32} (h : x < 0) : 0 = wbI x := by
  have h1 : x < 99 := Int32.lt_trans h (by decide)
  unfold wbI
  rw [if_pos h1, if_neg (fun q => absurd (Int32.lt_trans q h) (by decide))]
theorem wb_g {x : Int32} (h : 99 < x) : 99 = wbI x := by
  unfold wbI
  rw [if_neg (fun q => absurd (Int32.lt_trans h q) (by decide)), if_pos (by decide)]
theorem wb_m {x : Int32} (h : ¬ x < 0) (h2 : ¬ 99 < x) : x = wbI x := by
  have a := Int32.le_iff_toInt_le.mp (Int32.not_lt.mp h)
  have b := Int32.le_iff_toInt_le.mp (Int32.not_lt.mp h2)
  have z0 : (0 : Int32).toInt = 0 := by decide
  have z9 : (99 : Int32).toInt = 99 := by decide
  unfold wbI
  by_cases q : x < 99
  · rw [if_pos q]
    by_cases r : 0 < x
    · rw [if_pos r]
    · rw [if_neg r]
      have c := Int32.le_iff_toInt_le.mp (Int32.not_lt.mp r)
      exact Int32.toInt_inj.mp (by omega)
  · have c := Int32.le_iff_toInt_le.mp (Int32.not_lt.mp q)
    rw [if_neg q, if_pos (by decide)]
    exact Int32.toInt_inj.mp (by omega)
theorem ps_y {P : Nat → Prop} [DecidablePred P] {f g g' v : Nat → Int32} {i : Nat} {x : Int32} (hg : ∀ c, g c = if P c ∧ c < i then v c else f c) (hp : P i) (ex : x = v i) (e : g' = upd g i x) : ∀ c, g' c = if P c ∧ c < i + 1 then v c else f c := by
  intro c
  subst e
  by_cases r : c = i
  · subst r; rw [pk_us, if_pos ⟨hp, by omega⟩]; exact ex
  · rw [pk_un r, hg c]
    by_cases q : P c ∧ c < i
    · rw [if_pos q, if_pos ⟨q.1, by omega⟩]
    · rw [if_neg q, if_neg (fun p => q ⟨p.1, by omega⟩)]
theorem ps_n {P : Nat → Prop} [DecidablePred P] {f g v : Nat → Int32} {i : Nat} (hg : ∀ c, g c = if P c ∧ c < i then v c else f c) (hp : ¬ P i) : ∀ c, g c = if P c ∧ c < i + 1 then v c else f c := by
  intro c
  rw [hg c]
  by_cases q : P c ∧ c < i
  · rw [if_pos q, if_pos ⟨q.1, by omega⟩]
  · rw [if_neg q, if_neg (fun p => q ⟨p.1, by
      have : ¬ c = i := fun r => hp (r ▸ p.1)
      omega⟩)]
theorem ps_at {P : Nat → Prop} [DecidablePred P] {f g v : Nat → Int32} {i : Nat} (hg : ∀ c, g c = if P c ∧ c < i then v c else f c) : g i = f i := by
  rw [hg i, if_neg (fun q => Nat.lt_irrefl _ q.2)]
theorem ps_e {P : Nat → Prop} [DecidablePred P] {f g v : Nat → Int32} {i : Nat} (hg : ∀ c, g c = if P c ∧ c < i then v c else f c) (hp : ∀ c, P c → c < i) : ∀ c, g c = if P c then v c else f c := by
  intro c
  rw [hg c]
  by_cases q : P c
  · rw [if_pos ⟨q, hp c q⟩, if_pos q]
  · rw [if_neg (fun r => q r.1), if_neg q]
section
variable {w h bc c : Nat} {lo hi : Nat → Int32} {b0 : Int32} {wt wh : Nat → Nat} {x : (Nat → Int32) × (Nat → Int32)}
theorem mkf_o (q : ¬ (c % 10 < w ∧ c / 10 < h)) : mkf w h bc lo hi b0 wt wh x c = 0 := if_neg q
theorem mkf_c (q : c % 10 < w ∧ c / 10 < h) (k : ¬ x.1 c = 0) : mkf w h bc lo hi b0 wt wh x c = 0 := by
  unfold mkf
  rw [if_pos q]
  exact mk_0 (fun r => k r.2)
theorem mkf_1 (q : c % 10 < w ∧ c / 10 < h) (k : x.1 c = 0) (r : brI lo b0 c < nI (strN x.2 wt wh c bc) ∨ hi c = 0) : mkf w h bc lo hi b0 wt wh x c = 1 := by
  unfold mkf
  rw [if_pos q]
  exact mk_1 r k
theorem mkf_0 (q : c % 10 < w ∧ c / 10 < h) (r : ¬ (brI lo b0 c < nI (strN x.2 wt wh c bc) ∨ hi c = 0)) : mkf w h bc lo hi b0 wt wh x c = 0 := by
  unfold mkf
  rw [if_pos q]
  exact mk_0 (fun p => r p.1)
end
theorem mb_s {M b b' : Nat → Int32} {i : Nat} {v : Int32} (h : ∀ c, c < i → b c = M c) (e : b' = upd b i (vp_nar .boolean v)) (hv : M i = vp_nar .boolean v) : ∀ c, c < i + 1 → b' c = M c := by
  intro c hc
  subst e
  by_cases r : c = i
  · subst r; rw [pk_us]; exact hv.symm
  · rw [pk_un r]; exact h c (by omega)
section
variable {bc i q0 : Nat} {b gs gs0 gs' : Nat → Int32} {wh : Nat → Nat}
theorem s3_1 {q : Nat} (h : ∀ q, gs q = if q < bc ∧ gs0 q = 1 ∧ wh q < i ∧ ¬ b (wh q) = 0 then 2 else gs0 q) (s : gs q = 1) : gs0 q = 1 := by
  rw [h q] at s
  split at s
  · exact absurd s (by decide)
  · exact s
theorem s3_y (h : ∀ q, gs q = if q < bc ∧ gs0 q = 1 ∧ wh q < i ∧ ¬ b (wh q) = 0 then 2 else gs0 q) (hd : ∀ a d, a < bc → d < bc → gs0 a = 1 → gs0 d = 1 → wh a = wh d → a = d) (hq : q0 < bc) (hs : gs q0 = 1) (hw : wh q0 = i) (hb : ¬ b i = 0) (e : gs' = upd gs q0 2) : ∀ q, gs' q = if q < bc ∧ gs0 q = 1 ∧ wh q < i + 1 ∧ ¬ b (wh q) = 0 then 2 else gs0 q := by
  have s0 := s3_1 h hs
  intro q
  subst e
  by_cases r : q = q0
  · subst r
    rw [pk_us, if_pos ⟨hq, s0, by omega, by rw [hw]; exact hb⟩]
  · rw [pk_un r, h q]
    by_cases p : q < bc ∧ gs0 q = 1 ∧ wh q < i ∧ ¬ b (wh q) = 0
    · rw [if_pos p, if_pos ⟨p.1, p.2.1, by omega, p.2.2.2⟩]
    · rw [if_neg p, if_neg (fun p2 => p ⟨p2.1, p2.2.1, by
        have : ¬ wh q = i := fun e => r (hd q q0 p2.1 hq p2.2.1 s0 (by omega))
        omega, p2.2.2.2⟩)]
theorem s3_n (h : ∀ q, gs q = if q < bc ∧ gs0 q = 1 ∧ wh q < i ∧ ¬ b (wh q) = 0 then 2 else gs0 q) (hn : b i = 0 ∨ ∀ q, q < bc → gs q = 1 → ¬ wh q = i) : ∀ q, gs q = if q < bc ∧ gs0 q = 1 ∧ wh q < i + 1 ∧ ¬ b (wh q) = 0 then 2 else gs0 q := by
  intro q
  rw [h q]
  by_cases p : q < bc ∧ gs0 q = 1 ∧ wh q < i ∧ ¬ b (wh q) = 0
  · rw [if_pos p, if_pos ⟨p.1, p.2.1, by omega, p.2.2.2⟩]
  · rw [if_neg p, if_neg (fun p2 => p ⟨p2.1, p2.2.1, by
      have : ¬ wh q = i := fun e => by
        rcases hn with hn | hn
        · exact p2.2.2.2 (by rw [e]; exact hn)
        · exact hn q p2.1 (by rw [h q, if_neg p]; exact p2.2.1) e
      omega, p2.2.2.2⟩)]
theorem g3_y {g g' gc : Nat → Int32} (h : ∀ c, g c = if c < i ∧ ¬ b c = 0 then 1 else gc c) (hb : ¬ b i = 0) (e : g' = upd g i (vp_nar .boolean 1)) : ∀ c, g' c = if c < i + 1 ∧ ¬ b c = 0 then 1 else gc c := by
  intro c
  subst e
  by_cases r : c = i
  · subst r; rw [pk_us, if_pos ⟨by omega, hb⟩]; rfl
  · rw [pk_un r, h c]
    by_cases q : c < i ∧ ¬ b c = 0
    · rw [if_pos q, if_pos ⟨by omega, q.2⟩]
    · rw [if_neg q, if_neg (fun p => q ⟨by omega, p.2⟩)]
theorem g3_n {g gc : Nat → Int32} (h : ∀ c, g c = if c < i ∧ ¬ b c = 0 then 1 else gc c) (hb : b i = 0) : ∀ c, g c = if c < i + 1 ∧ ¬ b c = 0 then 1 else gc c := by
  intro c
  rw [h c]
  by_cases q : c < i ∧ ¬ b c = 0
  · rw [if_pos q, if_pos ⟨by omega, q.2⟩]
  · rw [if_neg q, if_neg (fun p => q ⟨by
      have : ¬ c = i := fun r => p.2 (r ▸ hb)
      omega, p.2⟩)]
end
/-- a round of the reference -/
theorem rnd_m {w h bc : Nat} {lo hi : Nat → Int32} {b0 : Int32} {wt wh : Nat → Nat} {x : (Nat → Int32) × (Nat → Int32)} {b g gs : Nat → Int32} (hw : w ≤ 10) (hh : h ≤ 10) (hb : ∀ c, c < 100 → b c = mkf w h bc lo hi b0 wt wh x c) (hW : ∀ q, q < bc → x.2 q = 1 → wh q < 100) (hg : ∀ c, g c = if c < 100 ∧ ¬ b c = 0 then 1 else x.1 c) (hs : ∀ q, gs q = if q < bc ∧ x.2 q = 1 ∧ wh q < 100 ∧ ¬ b (wh q) = 0 then 2 else x.2 q) : (g, gs) = rnd w h bc lo hi b0 wt wh x := by
  unfold rnd
  refine Prod.ext (funext fun c => ?_) (funext fun q => ?_)
  · show g c = if _ then _ else _
    rw [hg c]
    by_cases p : c < 100
    · rw [hb c p]
      by_cases r : mkf w h bc lo hi b0 wt wh x c = 0
      · rw [if_neg (fun p => p.2 r), if_pos r]
      · rw [if_pos ⟨p, r⟩, if_neg r]
    · rw [if_neg (fun r => p r.1), if_pos (mkf_o (fun r => p (by omega)))]
  · show gs q = if _ then _ else _
    rw [hs q]
    by_cases p : q < bc ∧ x.2 q = 1
    · have p3 := hW q p.1 p.2
      rw [hb _ p3]
      by_cases r : mkf w h bc lo hi b0 wt wh x (wh q) = 0
      · rw [if_neg (fun z => z.2.2.2 r), if_neg (fun z => z.2.2 r)]
      · rw [if_pos ⟨p.1, p.2, p3, r⟩, if_pos ⟨p.1, p.2, r⟩]
    · rw [if_neg (fun z => p ⟨z.1, z.2.1⟩), if_neg (fun z => p ⟨z.1, z.2.1⟩)]
theorem noM_m {w h bc : Nat} {lo hi : Nat → Int32} {b0 : Int32} {wt wh : Nat → Nat} {x : (Nat → Int32) × (Nat → Int32)} {b : Nat → Int32} (hw : w ≤ 10) (hh : h ≤ 10) (hb : ∀ c, c < 100 → b c = mkf w h bc lo hi b0 wt wh x c) (h0 : ∀ c, c < 100 → b c = 0) : noM w h bc lo hi b0 wt wh x := by
  intro c
  by_cases p : c < 100
  · rw [← hb c p]; exact h0 c p
  · exact mkf_o (fun r => p (by omega))
end ST6
