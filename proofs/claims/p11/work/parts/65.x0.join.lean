section ST9

theorem lw_set {bc w h : Nat} {B1 B2 B3 B5 B6 B7 G5 G6 G7 f1 f3 f4 f5 g3 g4 cf1 f_rule f_where g_where g_state : Nat → Int32} {wt wh ru : Nat → Nat} {x1 x2 x3 r rm fe fe1 u_fees : Int32} (hbc : bc ≤ 10) (hw : w ≤ 10) (hh : h ≤ 10) (H : CI bc w h B1 B2 B5 B6 B7 f3 f4 wt wh) (hr0 : f_rule 0 = cf1 0) (h6 : f_rule 6 = cf1 6) (h7 : f_rule 7 = cf1 7) (hWm : ∀ b, b < bc → B5 b = 1 → f_where b = nI (wh b)) (a : (r = (-1) ∧ G5 = B5 ∧ G6 = B6 ∧ G7 = B7 ∧ g3 = f3 ∧ g4 = f4 ∧ fe1 = fe ∧ ∀ b i j, b < bc → x1 = nI b → B5 b = 0 → x2 = nI i → x3 = nI j → i < w → j < h → ¬ mayC bc w h B2 B3 B5 f1 f3 f4 f5 (cf1 0) wh ru b (j * 10 + i)) ∨ (∃ b i j, b < bc ∧ x1 = nI b ∧ B5 b = 0 ∧ x2 = nI i ∧ x3 = nI j ∧ i < w ∧ j < h ∧ mayC bc w h B2 B3 B5 f1 f3 f4 f5 (cf1 0) wh ru b (j * 10 + i) ∧ r = cf1 6 * B2 b + (if B3 b = 0 then 0 else cf1 7) ∧ fe1 = fe + (cf1 6 * B2 b + (if B3 b = 0 then 0 else cf1 7)) ∧ G5 = upd B5 b 1 ∧ CI bc w h B1 B2 G5 G6 G7 g3 g4 wt (upN wh b (j * 10 + i)))) (d : (rm = (-1) ∧ g_state = B5 ∧ u_fees = fe ∧ (∀ q, q < bc → B5 q = 1 → g_where q = f_where q) ∧ ∀ b i j, b < bc → x1 = nI b → B5 b = 0 → x2 = nI i → x3 = nI j → i < w → j < h → ¬ (0 < f1 (10 * j + i) ∧ f5 (10 * j + i) = 0 ∧ (∀ q, q < bc → B5 q = 1 → ¬ wh q = (10 * j + i)) ∧ mayM bc w h B3 B5 f1 f5 (f_rule 0) wt wh ru b (10 * j + i))) ∨ (∃ b i j, b < bc ∧ x1 = nI b ∧ B5 b = 0 ∧ x2 = nI i ∧ x3 = nI j ∧ i < w ∧ j < h ∧ (0 < f1 (10 * j + i) ∧ f5 (10 * j + i) = 0 ∧ (∀ q, q < bc → B5 q = 1 → ¬ wh q = (10 * j + i)) ∧ mayM bc w h B3 B5 f1 f5 (f_rule 0) wt wh ru b (10 * j + i)) ∧ rm = f_rule 6 * B2 b + (if B3 b = 0 then 0 else f_rule 7) ∧ u_fees = fe + (f_rule 6 * B2 b + (if B3 b = 0 then 0 else f_rule 7)) ∧ g_state = upd B5 b 1 ∧ g_where b = nI (10 * j + i) ∧ ∀ q, ¬ q = b → g_where q = f_where q)) : r = rm ∧ g_state = G5 ∧ u_fees = fe1 ∧ ∃ wh9, CI bc w h B1 B2 G5 G6 G7 g3 g4 wt wh9 ∧ ∀ b, b < bc → G5 b = 1 → g_where b = nI (wh9 b) := by
  have key : ∀ b i j, b < bc → B5 b = 0 → i < w → j < h → (mayC bc w h B2 B3 B5 f1 f3 f4 f5 (cf1 0) wh ru b (j * 10 + i) ↔ (0 < f1 (10 * j + i) ∧ f5 (10 * j + i) = 0 ∧ (∀ q, q < bc → B5 q = 1 → ¬ wh q = 10 * j + i) ∧ mayM bc w h B3 B5 f1 f5 (f_rule 0) wt wh ru b (10 * j + i))) := by
    intro b i j hb h0 hi hj
    have n1 : ¬ B5 b = 1 := by rw [h0]; decide
    rw [show 10 * j + i = j * 10 + i by omega, hr0]
    have mi := may_iff (f1 := f1) (b0 := cf1 0) (ru := ru) (c := j * 10 + i) hbc H hb n1
    constructor
    · intro q
      refine ⟨q.1, q.2.1, ?_, q.2.2.2.1, q.2.2.2.2.2.1, mi.mp ⟨q.2.2.2.2.1, q.2.2.2.2.2.2⟩⟩
      rcases H.2.2.1 (j * 10 + i) (by omega) (by omega) with ⟨e, he, se, ee, fe⟩ | ⟨_, z⟩
      · exact absurd (q.2.2.1.symm.trans fe).symm (nI_nm1 (by omega))
      · exact z
    · intro q
      have m := mi.mpr q.2.2.2.2.2
      refine ⟨q.1, q.2.1, ?_, q.2.2.2.1, m.1, q.2.2.2.2.1, m.2⟩
      rcases H.2.2.1 (j * 10 + i) (by omega) (by omega) with ⟨e, he, se, ee, fe⟩ | ⟨z, _⟩
      · exact absurd ee (q.2.2.1 e he se)
      · exact z
  rcases a with ⟨a1, a2, a3, a4, a5, a6, a7, a8⟩ | ⟨b, i, j, hb, eb, sb, ei, ej, hi, hj, hm, a1, a2, a3, a4⟩
  · rcases d with ⟨d1, d2, d3, d4, d5⟩ | ⟨b, i, j, hb, eb, sb, ei, ej, hi, hj, hm, _⟩
    · refine ⟨a1.trans d1.symm, d2.trans a2.symm, d3.trans a7.symm, wh, by rw [a2, a3, a4, a5, a6]; exact H, fun b hb s => ?_⟩
      rw [a2] at s
      rw [d4 b hb s]
      exact hWm b hb s
    · exact absurd ((key b i j hb sb hi hj).mpr hm) (a8 b i j hb eb sb ei ej hi hj)
  · rcases d with ⟨d1, d2, d3, d4, d5⟩ | ⟨b', i', j', hb', eb', sb', ei', ej', hi', hj', hm', d1, d2, d3, d4, d5⟩
    · exact absurd ((key b i j hb sb hi hj).mp hm) (d5 b i j hb eb sb ei ej hi hj)
    · obtain rfl : b = b' := (nI_eq (by omega) (by omega)).mp (eb.symm.trans eb')
      obtain rfl : i = i' := (nI_eq (by omega) (by omega)).mp (ei.symm.trans ei')
      obtain rfl : j = j' := (nI_eq (by omega) (by omega)).mp (ej.symm.trans ej')
      rw [h6, h7] at d1 d2
      refine ⟨a1.trans d1.symm, d3.trans a3.symm, d2.trans a2.symm, _, a4, fun q hq s => ?_⟩
      by_cases r9 : q = b
      · subst r9; rw [upN_s, d4, show 10 * j + i = j * 10 + i by omega]
      · rw [upN_n r9, d5 q r9]
        rw [a3, pk_un r9] at s
        exact hWm q hq s

theorem lw_clear {bc w h : Nat} {B1 B2 B5 B6 B7 G5 G6 G7 f3 f4 g3 g4 f_where g_state : Nat → Int32} {wt wh : Nat → Nat} {x1 r rm : Int32} (hbc : bc ≤ 10) (hw : w ≤ 10) (hh : h ≤ 10) (H : CI bc w h B1 B2 B5 B6 B7 f3 f4 wt wh) (hWm : ∀ b, b < bc → B5 b = 1 → f_where b = nI (wh b)) (a : (r = 0 ∧ G5 = B5 ∧ G6 = B6 ∧ G7 = B7 ∧ g3 = f3 ∧ g4 = f4 ∧ ∀ b, b < bc → x1 = nI b → ¬ B5 b = 1) ∨ (∃ b, b < bc ∧ x1 = nI b ∧ B5 b = 1 ∧ r = 1 ∧ G5 = upd B5 b 0 ∧ CI bc w h B1 B2 G5 G6 G7 g3 g4 wt wh)) (d : (rm = 0 ∧ g_state = B5 ∧ ∀ q : Nat, q < bc → x1 = nI q → ¬ B5 q = 1) ∨ (∃ q : Nat, q < bc ∧ x1 = nI q ∧ B5 q = 1 ∧ rm = 1 ∧ g_state = upd B5 q 0)) : r = rm ∧ g_state = G5 ∧ CI bc w h B1 B2 G5 G6 G7 g3 g4 wt wh ∧ ∀ b, b < bc → G5 b = 1 → f_where b = nI (wh b) := by
  rcases a with ⟨a1, a2, a3, a4, a5, a6, a7⟩ | ⟨b, hb, eb, sb, a1, a2, a3⟩
  · rcases d with ⟨d1, d2, d3⟩ | ⟨b, hb, eb, sb, _⟩
    · exact ⟨a1.trans d1.symm, d2.trans a2.symm, by rw [a2, a3, a4, a5, a6]; exact H, fun b hb s => hWm b hb (by rw [a2] at s; exact s)⟩
    · exact absurd sb (a7 b hb eb)
  · rcases d with ⟨d1, d2, d3⟩ | ⟨b', hb', eb', sb', d1, d2⟩
    · exact absurd sb (d3 b hb eb)
    · obtain rfl : b = b' := (nI_eq (by omega) (by omega)).mp (eb.symm.trans eb')
      refine ⟨a1.trans d1.symm, d2.trans a2.symm, a3, fun q hq s => hWm q hq ?_⟩
      rw [a2] at s
      by_cases r9 : q = b
      · subst r9; rw [pk_us] at s; exact absurd s (by decide)
      · rw [pk_un r9] at s; exact s

theorem itr_out {w h bc : Nat} {lo hi : Nat → Int32} {b0 : Int32} {wt wh : Nat → Nat} {x : (Nat → Int32) × (Nat → Int32)} {c : Nat} (hc : ¬ (c % 10 < w ∧ c / 10 < h)) : ∀ n, (itr w h bc lo hi b0 wt wh x n).1 c = x.1 c := by
  intro n
  induction n with
  | zero => rfl
  | succ n ih =>
    show (if mkf w h bc lo hi b0 wt wh (itr w h bc lo hi b0 wt wh x n) c = 0 then (itr w h bc lo hi b0 wt wh x n).1 c else 1) = _
    rw [if_pos (mkf_o hc)]
    exact ih
theorem itr_set {w h bc : Nat} {lo hi : Nat → Int32} {b0 : Int32} {wt wh : Nat → Nat} {x : (Nat → Int32) × (Nat → Int32)} {b : Nat} : ∀ n, (itr w h bc lo hi b0 wt wh x n).2 b = 1 → x.2 b = 1 := by
  intro n
  induction n with
  | zero => exact id
  | succ n ih =>
    intro s
    have s2 : (if b < bc ∧ (itr w h bc lo hi b0 wt wh x n).2 b = 1 ∧ ¬ mkf w h bc lo hi b0 wt wh (itr w h bc lo hi b0 wt wh x n) (wh b) = 0 then 2 else (itr w h bc lo hi b0 wt wh x n).2 b) = 1 := s
    split at s2
    · exact absurd s2 (by decide)
    · exact ih s2
theorem wb_bd (t : Int32) : 0 ≤ (wbI t).toInt ∧ (wbI t).toInt ≤ 99 := by
  have z0 : (0 : Int32).toInt = 0 := by decide
  have z9 : (99 : Int32).toInt = 99 := by decide
  unfold wbI
  by_cases q : t < 99
  · rw [if_pos q]
    by_cases p : 0 < t
    · rw [if_pos p]
      have a := z_lt z0 rfl p
      have b := z_lt rfl z9 q
      omega
    · rw [if_neg p, z0]; omega
  · rw [if_neg q, if_pos (by decide), z9]; omega

theorem lw_hour {bc w h : Nat} {B1 B2 B3 B5 B6 B7 G5 G6 G7 f1 f2 f3 f4 f5 g1 g2 g3 g4 g5 cf1 f_rule f_where g_state g_low g_high g_crack : Nat → Int32} {wt wh ru : Nat → Nat} {x1 r rm ho ho1 u_hours : Int32} (hbc : bc ≤ 10) (hw : w ≤ 10) (hh : h ≤ 10) (H : CI bc w h B1 B2 B5 B6 B7 f3 f4 wt wh) (hr0 : f_rule 0 = cf1 0) (h5 : f_rule 5 = cf1 5) (hWm : ∀ b, b < bc → B5 b = 1 → f_where b = nI (wh b)) (ho5 : ∀ c, ¬ (c % 10 < w ∧ c / 10 < h) → f5 c = 0) (hlb : ∀ c, c < 100 → 0 ≤ (f1 c).toInt ∧ (f1 c).toInt ≤ 99) (a : ((x1 < (-9) ∨ 9 < x1) ∧ r = (-1) ∧ ho1 = ho ∧ G5 = B5 ∧ G6 = B6 ∧ G7 = B7 ∧ g1 = f1 ∧ g2 = f2 ∧ g3 = f3 ∧ g4 = f4 ∧ g5 = f5) ∨ (¬ (x1 < (-9) ∨ 9 < x1) ∧ ho1 = ho + 1 ∧ g1 = hrL w h x1 (fun c => firS (fun q => nI (ru q)) B3 B5 wh c bc) f1 ∧ g2 = hrL w h x1 (fun c => firS (fun q => nI (ru q)) B3 B5 wh c bc) f2 ∧ CI bc w h B1 B2 G5 G6 G7 g3 g4 wt wh ∧ (∃ n, (g5, G5) = itr w h bc g1 g2 (cf1 0) wt wh ((fun c => if c < 100 ∧ cf1 5 ≤ f1 c then 0 else f5 c), B5) n ∧ noM w h bc g1 g2 (cf1 0) wt wh (itr w h bc g1 g2 (cf1 0) wt wh ((fun c => if c < 100 ∧ cf1 5 ≤ f1 c then 0 else f5 c), B5) n)) ∧ ∃ k, r = nI k ∧ c2 G5 bc = c2 B5 bc + k)) (d : ((x1 < (-9) ∨ 9 < x1) ∧ rm = (-1) ∧ u_hours = ho ∧ g_low = f1 ∧ g_high = f2 ∧ g_crack = f5 ∧ g_state = B5) ∨ (¬ (x1 < (-9) ∨ 9 < x1) ∧ u_hours = ho + 1 ∧ g_low = hrL w h x1 (fun c => firS (fun q => nI (ru q)) B3 B5 wh c bc) f1 ∧ g_high = hrL w h x1 (fun c => firS (fun q => nI (ru q)) B3 B5 wh c bc) f2 ∧ (∃ n, (g_crack, g_state) = itr w h bc g_low g_high (f_rule 0) wt wh ((fun c => if (c % 10 < w ∧ c / 10 < h) ∧ f_rule 5 ≤ f1 c then 0 else f5 c), B5) n ∧ noM w h bc g_low g_high (f_rule 0) wt wh (itr w h bc g_low g_high (f_rule 0) wt wh ((fun c => if (c % 10 < w ∧ c / 10 < h) ∧ f_rule 5 ≤ f1 c then 0 else f5 c), B5) n)) ∧ ∃ k, rm = nI k ∧ c2 g_state bc = c2 B5 bc + k)) : r = rm ∧ g_state = G5 ∧ g_low = g1 ∧ g_high = g2 ∧ g_crack = g5 ∧ u_hours = ho1 ∧ CI bc w h B1 B2 G5 G6 G7 g3 g4 wt wh ∧ (∀ b, b < bc → G5 b = 1 → f_where b = nI (wh b)) ∧ (∀ c, ¬ (c % 10 < w ∧ c / 10 < h) → g5 c = 0) ∧ ∀ c, c < 100 → 0 ≤ (g1 c).toInt ∧ (g1 c).toInt ≤ 99 := by
  rcases a with ⟨a0, a1, a2, a3, a4, a5, a6, a7, a8, a9, a10⟩ | ⟨a0, a1, a2, a3, a4, ⟨n, a5, a6⟩, k, a7, a8⟩
  · rcases d with ⟨d0, d1, d2, d3, d4, d5, d6⟩ | ⟨d0, _⟩
    · subst a3; subst a4; subst a5; subst a6; subst a7; subst a8; subst a9; subst a10
      exact ⟨a1.trans d1.symm, d6, d3, d4, d5, d2.trans a2.symm, H, hWm, ho5, hlb⟩
    · exact absurd a0 d0
  · rcases d with ⟨d0, _⟩ | ⟨d0, d1, d2, d3, ⟨n', d5, d6⟩, k', d7, d8⟩
    · exact absurd d0 a0
    · have eh : (fun c => if (c % 10 < w ∧ c / 10 < h) ∧ f_rule 5 ≤ f1 c then 0 else f5 c) = (fun c => if c < 100 ∧ cf1 5 ≤ f1 c then 0 else f5 c) := by
        funext c
        rw [h5]
        by_cases q : c % 10 < w ∧ c / 10 < h
        · by_cases p : cf1 5 ≤ f1 c
          · rw [if_pos ⟨q, p⟩, if_pos ⟨by omega, p⟩]
          · rw [if_neg (fun z => p z.2), if_neg (fun z => p z.2)]
        · rw [if_neg (fun z => q z.1), ho5 c q]
          split <;> rfl
      have e1 : g_low = g1 := d2.trans a2.symm
      have e2 : g_high = g2 := d3.trans a3.symm
      subst e1; subst e2
      rw [eh, hr0] at d5 d6
      have et := itr_two a6 d6
      have e3 : (g_crack, g_state) = (g5, G5) := d5.trans (et.symm.trans a5.symm)
      have e4 : g_crack = g5 := congrArg Prod.fst e3
      have e5 : g_state = G5 := congrArg Prod.snd e3
      subst e4; subst e5
      have ek : k = k' := by omega
      refine ⟨by rw [a7, d7, ek], rfl, rfl, rfl, rfl, d1.trans a1.symm, a4, fun b hb s => hWm b hb ?_, fun c hc => ?_, fun c hc => ?_⟩
      · have s2 : g_state = (itr w h bc g_low g_high (cf1 0) wt wh (fun c => if c < 100 ∧ cf1 5 ≤ f1 c then 0 else f5 c, B5) n).2 := congrArg Prod.snd a5
        rw [s2] at s
        exact itr_set n s
      · have s2 := congrArg Prod.fst a5
        show g_crack c = 0
        have s3 : g_crack = (itr w h bc g_low g_high (cf1 0) wt wh (fun c => if c < 100 ∧ cf1 5 ≤ f1 c then 0 else f5 c, B5) n).1 := s2
        rw [s3, itr_out hc]
        show (if _ then _ else _) = _
        rw [ho5 c hc]
        split <;> rfl
      · rw [a2]
        unfold hrL
        split
        · exact wb_bd _
        · exact hlb c hc

theorem lw_lay {bc w h : Nat} {B1 B2 B3 B5 B6 B7 G5 G6 G7 f1 f3 f4 f5 g3 g4 cf1 f_rule g_where g_state : Nat → Int32} {wt wh ru : Nat → Nat} {r rm fe fe1 u_fees : Int32} (hbc : bc ≤ 10) (hw : w ≤ 10) (hh : h ≤ 10) (H : CI bc w h B1 B2 B5 B6 B7 f3 f4 wt wh) (hr0 : f_rule 0 = cf1 0) (h6 : f_rule 6 = cf1 6) (h7 : f_rule 7 = cf1 7) (a : ((srch w h bc f1 f5 B3 (cf1 0) wt ru (zeN (fun b => decide (B5 b = 0)) bc) (cP (fun b => decide (B5 b = 0)) bc) 40100 0 (fun _ => 0) 0 B5 wh).1 = 1 ∧ r = nI (cP (fun b => decide (B5 b = 0)) bc) ∧ G5 = (srch w h bc f1 f5 B3 (cf1 0) wt ru (zeN (fun b => decide (B5 b = 0)) bc) (cP (fun b => decide (B5 b = 0)) bc) 40100 0 (fun _ => 0) 0 B5 wh).2.2.1 ∧ CI bc w h B1 B2 G5 G6 G7 g3 g4 wt (srch w h bc f1 f5 B3 (cf1 0) wt ru (zeN (fun b => decide (B5 b = 0)) bc) (cP (fun b => decide (B5 b = 0)) bc) 40100 0 (fun _ => 0) 0 B5 wh).2.2.2 ∧ fe1 = feA cf1 B2 B3 (zeN (fun b => decide (B5 b = 0)) bc) fe (cP (fun b => decide (B5 b = 0)) bc)) ∨ (((srch w h bc f1 f5 B3 (cf1 0) wt ru (zeN (fun b => decide (B5 b = 0)) bc) (cP (fun b => decide (B5 b = 0)) bc) 40100 0 (fun _ => 0) 0 B5 wh).1 = 0 ∧ r = (-1) ∨ (srch w h bc f1 f5 B3 (cf1 0) wt ru (zeN (fun b => decide (B5 b = 0)) bc) (cP (fun b => decide (B5 b = 0)) bc) 40100 0 (fun _ => 0) 0 B5 wh).1 = 2 ∧ r = (-2)) ∧ G5 = B5 ∧ CI bc w h B1 B2 G5 G6 G7 g3 g4 wt wh ∧ fe1 = fe)) (d : ((srch w h bc f1 f5 B3 (f_rule 0) wt ru (zeN (fun b => decide (B5 b = 0)) bc) (cP (fun b => decide (B5 b = 0)) bc) 40100 0 (fun _ => 0) 0 B5 wh).1 = 1 ∧ rm = nI (cP (fun b => decide (B5 b = 0)) bc) ∧ g_state = (srch w h bc f1 f5 B3 (f_rule 0) wt ru (zeN (fun b => decide (B5 b = 0)) bc) (cP (fun b => decide (B5 b = 0)) bc) 40100 0 (fun _ => 0) 0 B5 wh).2.2.1 ∧ (∀ b, b < bc → g_state b = 1 → g_where b = nI ((srch w h bc f1 f5 B3 (f_rule 0) wt ru (zeN (fun b => decide (B5 b = 0)) bc) (cP (fun b => decide (B5 b = 0)) bc) 40100 0 (fun _ => 0) 0 B5 wh).2.2.2 b)) ∧ u_fees = feA f_rule B2 B3 (zeN (fun b => decide (B5 b = 0)) bc) fe (cP (fun b => decide (B5 b = 0)) bc)) ∨ (((srch w h bc f1 f5 B3 (f_rule 0) wt ru (zeN (fun b => decide (B5 b = 0)) bc) (cP (fun b => decide (B5 b = 0)) bc) 40100 0 (fun _ => 0) 0 B5 wh).1 = 0 ∧ rm = (-1) ∨ (srch w h bc f1 f5 B3 (f_rule 0) wt ru (zeN (fun b => decide (B5 b = 0)) bc) (cP (fun b => decide (B5 b = 0)) bc) 40100 0 (fun _ => 0) 0 B5 wh).1 = 2 ∧ rm = (-2)) ∧ g_state = B5 ∧ (∀ b, b < bc → B5 b = 1 → g_where b = nI (wh b)) ∧ u_fees = fe)) : r = rm ∧ g_state = G5 ∧ u_fees = fe1 ∧ ∃ wh9, CI bc w h B1 B2 G5 G6 G7 g3 g4 wt wh9 ∧ ∀ b, b < bc → G5 b = 1 → g_where b = nI (wh9 b) := by
  rw [hr0] at d
  have ef : ∀ W n, feA f_rule B2 B3 W fe n = feA cf1 B2 B3 W fe n := by
    intro W n
    induction n with
    | zero => rfl
    | succ n ih =>
      show feA f_rule B2 B3 W fe n + _ = feA cf1 B2 B3 W fe n + _
      rw [ih, h6, h7]
  rcases a with ⟨a1, a2, a3, a4, a5⟩ | ⟨a1, a2, a3, a4⟩
  · rcases d with ⟨d1, d2, d3, d4, d5⟩ | ⟨d1, d2, d3, d4⟩
    · exact ⟨a2.trans d2.symm, d3.trans a3.symm, by rw [d5, a5, ef], _, a4, fun b hb s => d4 b hb (by rw [d3, ← a3]; exact s)⟩
    · rcases d1 with ⟨q, _⟩ | ⟨q, _⟩ <;> (rw [a1] at q; exact absurd q (by decide))
  · rcases d with ⟨d1, _⟩ | ⟨d1, d2, d3, d4⟩
    · rcases a1 with ⟨q, _⟩ | ⟨q, _⟩ <;> (rw [d1] at q; exact absurd q (by decide))
    · have er : r = rm := by
        rcases a1 with ⟨q, e⟩ | ⟨q, e⟩ <;> rcases d1 with ⟨q', e'⟩ | ⟨q', e'⟩
        · rw [e, e']
        · rw [q] at q'; exact absurd q' (by decide)
        · rw [q] at q'; exact absurd q' (by decide)
        · rw [e, e']
      exact ⟨er, d2.trans a2.symm, d4.trans a4.symm, wh, a3, fun b hb s => d3 b hb (by rw [a2] at s; exact s)⟩

theorem lw_ice {bc w h nb w2 h2 nbm w2m h2m : Nat} {B1 B2 B5 B6 B7 f1 f2 f3 f4 f5 g1 g2 g3 g4 g5 f_where g_low g_high g_crack : Nat → Int32} {wt wh : Nat → Nat} {x y r rm fe fe1 ho ho1 u_fees u_hours : Int32} (hbc : bc ≤ 10) (hw : w ≤ 10) (hh : h ≤ 10) (H : CI bc w h B1 B2 B5 B6 B7 f3 f4 wt wh) (hWm : ∀ b, b < bc → B5 b = 1 → f_where b = nI (wh b)) (ho5 : ∀ c, ¬ (c % 10 < w ∧ c / 10 < h) → f5 c = 0) (hlb : ∀ c, c < 100 → 0 ≤ (f1 c).toInt ∧ (f1 c).toInt ≤ 99) (a : (r = 0 ∧ (x < 3 ∨ 10 < x ∨ y < 3 ∨ 10 < y) ∧ nb = bc ∧ w2 = w ∧ h2 = h ∧ ho1 = ho ∧ fe1 = fe ∧ g1 = f1 ∧ g2 = f2 ∧ g3 = f3 ∧ g4 = f4 ∧ g5 = f5) ∨ (r = 1 ∧ ¬ (x < 3 ∨ 10 < x ∨ y < 3 ∨ 10 < y) ∧ nb = 0 ∧ x = nI w2 ∧ y = nI h2 ∧ 3 ≤ w2 ∧ w2 ≤ 10 ∧ 3 ≤ h2 ∧ h2 ≤ 10 ∧ ho1 = 0 ∧ fe1 = 0 ∧ g1 = fiI 100 0 f1 ∧ g2 = fiI 100 0 f2 ∧ g3 = fiI 100 0 f3 ∧ g4 = fiI 100 (-1) f4 ∧ g5 = fiI 100 0 f5)) (d : (rm = 0 ∧ (x < 3 ∨ 10 < x ∨ y < 3 ∨ 10 < y) ∧ nbm = bc ∧ w2m = w ∧ h2m = h ∧ u_hours = ho ∧ u_fees = fe ∧ g_low = f1 ∧ g_high = f2 ∧ g_crack = f5) ∨ (rm = 1 ∧ ¬ (x < 3 ∨ 10 < x ∨ y < 3 ∨ 10 < y) ∧ nbm = 0 ∧ x = nI w2m ∧ y = nI h2m ∧ 3 ≤ w2m ∧ w2m ≤ 10 ∧ 3 ≤ h2m ∧ h2m ≤ 10 ∧ u_hours = 0 ∧ u_fees = 0 ∧ g_low = fiI 100 0 f1 ∧ g_high = fiI 100 0 f2 ∧ g_crack = fiI 100 0 f5)) : r = rm ∧ nbm = nb ∧ w2m = w2 ∧ h2m = h2 ∧ nb ≤ 10 ∧ w2 ≤ 10 ∧ h2 ≤ 10 ∧ g_low = g1 ∧ g_high = g2 ∧ g_crack = g5 ∧ u_hours = ho1 ∧ u_fees = fe1 ∧ CI nb w2 h2 B1 B2 B5 B6 B7 g3 g4 wt wh ∧ (∀ b, b < nb → B5 b = 1 → f_where b = nI (wh b)) ∧ (∀ c, ¬ (c % 10 < w2 ∧ c / 10 < h2) → g5 c = 0) ∧ ∀ c, c < 100 → 0 ≤ (g1 c).toInt ∧ (g1 c).toInt ≤ 99 := by
  rcases a with ⟨a0, a1, a2, a3, a4, a5, a6, a7, a8, a9, a10, a11⟩ | ⟨a0, a1, a2, a3, a4, a5, a6, a7, a8, a9, a10, b1, b2, b3, b4, b5⟩
  · rcases d with ⟨d0, d1, d2, d3, d4, d5, d6, d7, d8, d9⟩ | ⟨d0, d1, _⟩
    · subst a2; subst a3; subst a4; subst a7; subst a8; subst a9; subst a10; subst a11
      exact ⟨a0.trans d0.symm, d2, d3, d4, hbc, hw, hh, d7, d8, d9, d5.trans a5.symm, d6.trans a6.symm, H, hWm, ho5, hlb⟩
    · exact absurd a1 d1
  · rcases d with ⟨d0, d1, _⟩ | ⟨d0, d1, d2, d3, d4, d5, d6, d7, d8, d9, d10, c1, c2, c3⟩
    · exact absurd d1 a1
    · have ew : w2m = w2 := (nI_eq (by omega) (by omega)).mp (d3.symm.trans a3)
      have eh : h2m = h2 := (nI_eq (by omega) (by omega)).mp (d4.symm.trans a4)
      subst a2
      refine ⟨a0.trans d0.symm, d2, ew, eh, by omega, a6, a8, c1.trans b1.symm, c2.trans b2.symm, c3.trans b5.symm, d9.trans a9.symm, d10.trans a10.symm, CI_ice (fun c hc => by rw [b3]; exact if_pos hc) (fun c hc => by rw [b4]; exact if_pos hc) a6 a8, fun b hb => absurd hb (Nat.not_lt_zero b), fun c hc => ?_, fun c hc => ?_⟩
      · rw [b5]
        by_cases q : c < 100
        · exact if_pos q
        · exact (if_neg q).trans (ho5 c (fun z => q (by omega)))
      · rw [b1]
        have e : fiI 100 0 f1 c = 0 := if_pos hc
        rw [e]
        decide

theorem lw_sound {bc w h : Nat} {f1 f2 g1 g2 g_low g_high : Nat → Int32} {x0 x1 y0 y1 lo hi r rm : Int32} (hbc : bc ≤ 10) (hw : w ≤ 10) (hh : h ≤ 10) (hlb : ∀ c, c < 100 → 0 ≤ (f1 c).toInt ∧ (f1 c).toInt ≤ 99) (a : r = (if (x0 < 0 ∨ ¬ x0 < nI w ∨ y0 < 0 ∨ ¬ y0 < nI h) ∨ (x1 < 0 ∨ ¬ x1 < nI w ∨ y1 < 0 ∨ ¬ y1 < nI h) ∨ x1 < x0 ∨ y1 < y0 ∨ lo < 0 ∨ hi < lo ∨ 99 < hi then 0 else 1) ∧ ((((x0 < 0 ∨ ¬ x0 < nI w ∨ y0 < 0 ∨ ¬ y0 < nI h) ∨ (x1 < 0 ∨ ¬ x1 < nI w ∨ y1 < 0 ∨ ¬ y1 < nI h) ∨ x1 < x0 ∨ y1 < y0 ∨ lo < 0 ∨ hi < lo ∨ 99 < hi) ∧ g1 = f1 ∧ g2 = f2) ∨ (¬ ((x0 < 0 ∨ ¬ x0 < nI w ∨ y0 < 0 ∨ ¬ y0 < nI h) ∨ (x1 < 0 ∨ ¬ x1 < nI w ∨ y1 < 0 ∨ ¬ y1 < nI h) ∨ x1 < x0 ∨ y1 < y0 ∨ lo < 0 ∨ hi < lo ∨ 99 < hi) ∧ ∃ i0 j0 i1 j1 : Nat, x0 = nI i0 ∧ y0 = nI j0 ∧ x1 = nI i1 ∧ y1 = nI j1 ∧ i1 < w ∧ j1 < h ∧ i0 ≤ i1 ∧ j0 ≤ j1 ∧ g1 = soI i0 j0 i1 j1 lo f1 ∧ g2 = soI i0 j0 i1 j1 hi f2))) (d : rm = (if (x0 < 0 ∨ ¬ x0 < nI w ∨ y0 < 0 ∨ ¬ y0 < nI h) ∨ (x1 < 0 ∨ ¬ x1 < nI w ∨ y1 < 0 ∨ ¬ y1 < nI h) ∨ x1 < x0 ∨ y1 < y0 ∨ lo < 0 ∨ hi < lo ∨ 99 < hi then 0 else 1) ∧ ((((x0 < 0 ∨ ¬ x0 < nI w ∨ y0 < 0 ∨ ¬ y0 < nI h) ∨ (x1 < 0 ∨ ¬ x1 < nI w ∨ y1 < 0 ∨ ¬ y1 < nI h) ∨ x1 < x0 ∨ y1 < y0 ∨ lo < 0 ∨ hi < lo ∨ 99 < hi) ∧ g_low = f1 ∧ g_high = f2) ∨ (¬ ((x0 < 0 ∨ ¬ x0 < nI w ∨ y0 < 0 ∨ ¬ y0 < nI h) ∨ (x1 < 0 ∨ ¬ x1 < nI w ∨ y1 < 0 ∨ ¬ y1 < nI h) ∨ x1 < x0 ∨ y1 < y0 ∨ lo < 0 ∨ hi < lo ∨ 99 < hi) ∧ ∃ i0 j0 i1 j1 : Nat, x0 = nI i0 ∧ y0 = nI j0 ∧ x1 = nI i1 ∧ y1 = nI j1 ∧ i1 < w ∧ j1 < h ∧ i0 ≤ i1 ∧ j0 ≤ j1 ∧ g_low = soI i0 j0 i1 j1 lo f1 ∧ g_high = soI i0 j0 i1 j1 hi f2))) : r = rm ∧ g_low = g1 ∧ g_high = g2 ∧ ∀ c, c < 100 → 0 ≤ (g1 c).toInt ∧ (g1 c).toInt ≤ 99 := by
  obtain ⟨a0, a⟩ := a
  obtain ⟨d0, d⟩ := d
  refine ⟨a0.trans d0.symm, ?_⟩
  rcases a with ⟨b0, b1, b2⟩ | ⟨b0, i0, j0, i1, j1, e1, e2, e3, e4, k1, k2, k3, k4, b1, b2⟩
  · rcases d with ⟨c0, c1, c2⟩ | ⟨c0, _⟩
    · exact ⟨c1.trans b1.symm, c2.trans b2.symm, by rw [b1]; exact hlb⟩
    · exact absurd b0 c0
  · rcases d with ⟨c0, _⟩ | ⟨c0, i0', j0', i1', j1', e1', e2', e3', e4', k1', k2', k3', k4', c1, c2⟩
    · exact absurd c0 b0
    · have n3 : ¬ lo < 0 := fun q => b0 (Or.inr (Or.inr (Or.inr (Or.inr (Or.inl q)))))
      have n4 : ¬ hi < lo := fun q => b0 (Or.inr (Or.inr (Or.inr (Or.inr (Or.inr (Or.inl q))))))
      have n5 : ¬ 99 < hi := fun q => b0 (Or.inr (Or.inr (Or.inr (Or.inr (Or.inr (Or.inr q))))))
      obtain rfl : i0 = i0' := (nI_eq (by omega) (by omega)).mp (e1.symm.trans e1')
      obtain rfl : j0 = j0' := (nI_eq (by omega) (by omega)).mp (e2.symm.trans e2')
      obtain rfl : i1 = i1' := (nI_eq (by omega) (by omega)).mp (e3.symm.trans e3')
      obtain rfl : j1 = j1' := (nI_eq (by omega) (by omega)).mp (e4.symm.trans e4')
      refine ⟨c1.trans b1.symm, c2.trans b2.symm, fun c hc => ?_⟩
      rw [b1]
      unfold soI
      split
      · have z0 : (0 : Int32).toInt = 0 := by decide
        have z9 : (99 : Int32).toInt = 99 := by decide
        have y1 := z_nlt rfl z0 n3
        have y2 := z_nlt rfl rfl n4
        have y3 := z_nlt z9 rfl n5
        omega
      · exact hlb c hc

theorem lw_booth {bc w h nb nbm : Nat} {B1 B2 B3 B4 B5 B6 B7 G1 G2 G3 G4 G5 G6 G7 f3 f4 f_where g_state g_weight g_fire g_crowd : Nat → Int32} {wt wh : Nat → Nat} {r rm w1 fi cr1 : Int32} (hbc : bc ≤ 10) (hw : w ≤ 10) (hh : h ≤ 10) (H : CI bc w h B1 B2 B5 B6 B7 f3 f4 wt wh) (hWm : ∀ b, b < bc → B5 b = 1 → f_where b = nI (wh b)) (a : (((w1 < 1 ∨ 50 < w1 ∨ cr1 < 0 ∨ 99 < cr1) ∨ bc = 10) ∧ r = (-1) ∧ nb = bc ∧ G1 = B1 ∧ G2 = B2 ∧ G3 = B3 ∧ G4 = B4 ∧ G5 = B5 ∧ G6 = B6 ∧ G7 = B7) ∨ (¬ (w1 < 1 ∨ 50 < w1 ∨ cr1 < 0 ∨ 99 < cr1) ∧ bc < 10 ∧ nb = bc + 1 ∧ r = nI bc ∧ G1 = upd B1 bc (nI bc) ∧ G2 = upd B2 bc w1 ∧ G3 = upd B3 bc fi ∧ G4 = upd B4 bc cr1 ∧ G5 = upd B5 bc 0 ∧ G6 = upd B6 bc (-1) ∧ G7 = upd B7 bc (-1))) (d : (((w1 < 1 ∨ 50 < w1 ∨ cr1 < 0 ∨ 99 < cr1) ∨ bc = 10) ∧ rm = (-1) ∧ nbm = bc ∧ g_weight = B2 ∧ g_fire = B3 ∧ g_crowd = B4 ∧ g_state = B5) ∨ (¬ (w1 < 1 ∨ 50 < w1 ∨ cr1 < 0 ∨ 99 < cr1) ∧ bc < 10 ∧ nbm = bc + 1 ∧ rm = nI bc ∧ g_weight = upd B2 bc w1 ∧ g_fire = upd B3 bc fi ∧ g_crowd = upd B4 bc cr1 ∧ g_state = upd B5 bc 0)) : r = rm ∧ nbm = nb ∧ nb ≤ 10 ∧ g_weight = G2 ∧ g_fire = G3 ∧ g_crowd = G4 ∧ g_state = G5 ∧ (∃ wt9, CI nb w h G1 G2 G5 G6 G7 f3 f4 wt9 wh) ∧ ∀ b, b < nb → G5 b = 1 → f_where b = nI (wh b) := by
  rcases a with ⟨a0, a1, a2, b1, b2, b3, b4, b5, b6, b7⟩ | ⟨a0, a1, a2, a3, b1, b2, b3, b4, b5, b6, b7⟩
  · rcases d with ⟨d0, d1, d2, c1, c2, c3, c4⟩ | ⟨d0, d1, _⟩
    · subst a2; subst b1; subst b2; subst b3; subst b4; subst b5; subst b6; subst b7
      exact ⟨a1.trans d1.symm, d2, hbc, c1, c2, c3, c4, ⟨wt, H⟩, hWm⟩
    · rcases a0 with q | q
      · exact absurd q d0
      · omega
  · rcases d with ⟨d0, d1, _⟩ | ⟨d0, d1, d2, d3, c1, c2, c3, c4⟩
    · rcases d0 with q | q
      · exact absurd q a0
      · omega
    · subst a2
      have n1 : ¬ w1 < 1 := fun q => a0 (Or.inl q)
      have n2 : ¬ 50 < w1 := fun q => a0 (Or.inr (Or.inl q))
      have z1 : (1 : Int32).toInt = 1 := by decide
      have z5 : (50 : Int32).toInt = 50 := by decide
      have y1 := z_nlt rfl z1 n1
      have y2 := z_nlt z5 rfl n2
      have ew : w1 = nI w1.toInt.toNat := by
        apply Int32.toInt_inj.mp
        rw [nI_toInt (by omega)]
        omega
      refine ⟨a3.trans d3.symm, d2, by omega, c1.trans b2.symm, c2.trans b3.symm, c3.trans b4.symm, c4.trans b5.symm, ⟨_, CI_add H b1 (by rw [← ew]; exact b2) (by omega) b5 b6 b7⟩, fun b hb s => ?_⟩
      rw [b5] at s
      by_cases q : b = bc
      · subst q; rw [pk_us] at s; exact absurd s (by decide)
      · rw [pk_un q] at s
        exact hWm b (by omega) s

end ST9
