section ST23
theorem sh_bit : ∀ i, i < 10 → ∀ g, g < 1024 → ((nI g >>> (nI i &&& 31)) &&& 1 = 1 ↔ g.testBit i = true) := by decide +kernel
theorem sub_bit {g c : Nat} : (nI g &&& (nI c ^^^ (-1)) = 0) ↔ ∀ i, i < 32 → g.testBit i = true → c.testBit i = true := by
  rw [← Int32.toBitVec_inj, Int32.toBitVec_and, Int32.toBitVec_xor]
  have hg : (nI g).toBitVec = BitVec.ofNat 32 g := rfl
  have hc : (nI c).toBitVec = BitVec.ofNat 32 c := rfl
  have hm : (-1 : Int32).toBitVec = BitVec.allOnes 32 := by decide
  have h0 : (0 : Int32).toBitVec = BitVec.ofNat 32 0 := rfl
  rw [hg, hc, hm, h0]
  have lg : ∀ i, i < 32 → (BitVec.ofNat 32 g &&& (BitVec.ofNat 32 c ^^^ BitVec.allOnes 32)).getLsbD i = (g.testBit i && (c.testBit i ^^ true)) := by
    intro i hi
    rw [BitVec.getLsbD_and, BitVec.getLsbD_xor, BitVec.getLsbD_ofNat, BitVec.getLsbD_ofNat, BitVec.getLsbD_allOnes, decide_eq_true hi] <;> rfl
  constructor
  · intro h i hi t
    have q : (BitVec.ofNat 32 g &&& (BitVec.ofNat 32 c ^^^ BitVec.allOnes 32)).getLsbD i = (BitVec.ofNat 32 0).getLsbD i := by rw [h]
    rw [lg i hi, t, BitVec.getLsbD_ofNat, Nat.zero_testBit, Bool.and_false] at q
    cases e : c.testBit i with
    | true => rfl
    | false => rw [e] at q; exact absurd q (by decide)
  · intro h
    apply BitVec.eq_of_getLsbD_eq
    intro i hi
    rw [lg i hi, BitVec.getLsbD_ofNat, Nat.zero_testBit, Bool.and_false]
    cases t : g.testBit i with
    | false => rfl
    | true => rw [h i hi t]; rfl
theorem or_nI (a b : Nat) : nI a ||| nI b = nI (a ||| b) := by
  apply Int32.toBitVec_inj.mp
  rw [Int32.toBitVec_or]
  exact BitVec.ofNat_or.symm
/-- steps as the class has them: 9999 for none -/
def dv (d : Nat) : Int32 := if d = 9999 then (-1) else nI d
def okD (d : Nat) : Prop := d = 9999 ∨ d ≤ 100
theorem dv_n : dv 9999 = (-1) := if_pos rfl
theorem dv_y {d : Nat} (h : d ≤ 100) : dv d = nI d := if_neg (by omega)
theorem dv_m1 {d : Nat} (h : okD d) : dv d = (-1) ↔ d = 9999 := by
  rcases h with h | h
  · rw [h]; exact ⟨fun _ => rfl, fun _ => dv_n⟩
  · rw [dv_y h]; exact ⟨fun q => absurd q (nI_nm1 (by omega)), fun q => by omega⟩
theorem nr_dv {a b : Nat} (ha : okD a) (hb : okD b) : nrI (dv a) (dv b) = dv (min a b) ∧ okD (min a b) := by
  by_cases h1 : a = 9999
  · have hm : min a b = b := by rcases hb with q | q <;> omega
    rw [hm]
    refine ⟨?_, hb⟩
    unfold nrI
    rw [if_pos ((dv_m1 ha).mpr h1)]
  · have h2 : a ≤ 100 := ha.resolve_left h1
    by_cases h3 : b = 9999
    · have hm : min a b = a := by omega
      rw [hm]
      refine ⟨?_, ha⟩
      unfold nrI
      rw [if_neg (fun q => h1 ((dv_m1 ha).mp q)), if_pos ((dv_m1 hb).mpr h3)]
    · have h4 : b ≤ 100 := hb.resolve_left h3
      refine ⟨?_, Or.inr (by omega)⟩
      unfold nrI
      rw [if_neg (fun q => h1 ((dv_m1 ha).mp q)), if_neg (fun q => h3 ((dv_m1 hb).mp q)), dv_y h2, dv_y h4, dv_y (show min a b ≤ 100 by omega)]
      by_cases l : b < a
      · rw [if_pos ((nI_ltI (by omega) (by omega)).mpr l), show min a b = b by omega]
      · rw [if_neg (fun q => l ((nI_ltI (by omega) (by omega)).mp q)), show min a b = a by omega]
def lsD (P : Nat → Prop) (d : Nat) : Prop := (d = 9999 ∧ ∀ m, ¬ P m) ∨ (d ≤ 100 ∧ P d ∧ ∀ k, P k → d ≤ k)
def ddC (t : Nat → Int32) (b s : Nat) : Nat := if t (b * 4 + s) = (-1) then 9999 else uN (t (b * 4 + s))
theorem dd_of {P : Nat → Prop} {t : Nat → Int32} {b s : Nat} (h : lsQ P 100 (t (b * 4 + s))) : lsD P (ddC t b s) ∧ t (b * 4 + s) = dv (ddC t b s) := by
  unfold ddC
  rcases h with ⟨e, n⟩ | ⟨m, l, e, p, q⟩
  · rw [if_pos e]
    exact ⟨Or.inl ⟨rfl, n⟩, e.trans dv_n.symm⟩
  · have hn : ¬ t (b * 4 + s) = (-1) := by rw [e]; exact nI_nm1 (by omega)
    have hu : uN (t (b * 4 + s)) = m := by rw [e]; exact uN_nI (by omega)
    rw [if_neg hn, hu]
    exact ⟨Or.inr ⟨l, p, q⟩, e.trans (dv_y l).symm⟩
theorem lsD_ok {P : Nat → Prop} {d : Nat} (h : lsD P d) : okD d := h.imp (fun q => q.1) (fun q => q.1)
theorem lsD_M {P : Nat → Prop} {d : Nat} {x : Int32} (h : lsD P d) (a : lsM P x) : x = nI d := by
  rcases h with ⟨e, n⟩ | ⟨l, p, q⟩
  · rcases a with ⟨e2, _⟩ | ⟨m, _, _, p2, _⟩
    · rw [e2, e]
    · exact absurd p2 (n m)
  · rcases a with ⟨_, q2⟩ | ⟨m, _, e2, p2, q2⟩
    · have := q2 d p
      omega
    · have h1 := q m p2
      have h2 := q2 d p
      rw [e2, show m = d by omega]
/-- the men of a group -/
def menN (cw : Nat → Nat) (g : Nat) : Nat → Nat
  | 0 => 0
  | n + 1 => menN cw g n + (if g.testBit n = true then cw n else 0)
/-- the first of a group at a stair -/
def fsN (dd : Nat → Nat → Nat) (g s : Nat) : Nat → Nat
  | 0 => 9999
  | n + 1 => if g.testBit n = true then min (fsN dd g s n) (dd n s) else fsN dd g s n
/-- how many the stairs let off -/
def letN (mn fs : Nat → Nat) (t : Nat) : Nat → Nat
  | 0 => 0
  | n + 1 => letN mn fs t n + mn n * (t - fs n)
section
variable {cw mn fs fs' : Nat → Nat} {dd : Nat → Nat → Nat} {g g' s t t' b : Nat}
theorem menN_y {n : Nat} (h : g.testBit n = true) : menN cw g (n + 1) = menN cw g n + cw n := by
  show menN cw g n + _ = _
  rw [if_pos h]
theorem menN_n {n : Nat} (h : ¬ g.testBit n = true) : menN cw g (n + 1) = menN cw g n := by
  show menN cw g n + _ = _
  rw [if_neg h, Nat.add_zero]
theorem fsN_y {n : Nat} (h : g.testBit n = true) : fsN dd g s (n + 1) = min (fsN dd g s n) (dd n s) := if_pos h
theorem fsN_n {n : Nat} (h : ¬ g.testBit n = true) : fsN dd g s (n + 1) = fsN dd g s n := if_neg h
theorem menN_le : ∀ n, (∀ b, b < n → cw b ≤ 99) → menN cw g n ≤ 99 * n := by
  intro n
  induction n with
  | zero => intro _; exact Nat.le_refl _
  | succ n ih =>
    intro h
    have h1 := ih (fun b hb => h b (by omega))
    have h2 := h n (by omega)
    by_cases q : g.testBit n = true
    · rw [menN_y q]; omega
    · rw [menN_n q]; omega
theorem fsN_ok : ∀ n, (∀ b, b < n → g.testBit b = true → okD (dd b s)) → okD (fsN dd g s n) := by
  intro n
  induction n with
  | zero => intro _; exact Or.inl rfl
  | succ n ih =>
    intro h
    have h1 := ih (fun b hb => h b (by omega))
    by_cases q : g.testBit n = true
    · rw [fsN_y q]
      exact (nr_dv h1 (h n (by omega) q)).2
    · rw [fsN_n q]; exact h1
theorem fsN_le : ∀ n, b < n → g.testBit b = true → fsN dd g s n ≤ dd b s := by
  intro n
  induction n with
  | zero => intro h; exact absurd h (Nat.not_lt_zero _)
  | succ n ih =>
    intro h hb
    by_cases r : b = n
    · subst r
      rw [fsN_y hb]
      exact Nat.min_le_right _ _
    · have h1 := ih (by omega) hb
      by_cases q : g.testBit n = true
      · rw [fsN_y q]
        exact Nat.le_trans (Nat.min_le_left _ _) h1
      · rw [fsN_n q]; exact h1
theorem fsN_sub : ∀ n, (∀ b, b < n → g'.testBit b = true → g.testBit b = true) → fsN dd g s n ≤ fsN dd g' s n := by
  intro n
  induction n with
  | zero => intro _; exact Nat.le_refl _
  | succ n ih =>
    intro h
    have h1 := ih (fun b hb => h b (by omega))
    by_cases q' : g'.testBit n = true
    · rw [fsN_y q', fsN_y (h n (by omega) q')]
      omega
    · rw [fsN_n q']
      by_cases q : g.testBit n = true
      · rw [fsN_y q]
        exact Nat.le_trans (Nat.min_le_left _ _) h1
      · rw [fsN_n q]; exact h1
theorem letN_mono (h : t ≤ t') : ∀ n, letN mn fs t n ≤ letN mn fs t' n := by
  intro n
  induction n with
  | zero => exact Nat.le_refl _
  | succ n ih =>
    have h1 : mn n * (t - fs n) ≤ mn n * (t' - fs n) := Nat.mul_le_mul_left _ (by omega)
    show letN mn fs t n + _ ≤ letN mn fs t' n + _
    omega
theorem letN_fs : ∀ n, (∀ s, s < n → fs' s ≤ fs s) → letN mn fs t n ≤ letN mn fs' t n := by
  intro n
  induction n with
  | zero => intro _; exact Nat.le_refl _
  | succ n ih =>
    intro h
    have h0 := ih (fun s hs => h s (by omega))
    have h2 := h n (by omega)
    have h1 : mn n * (t - fs n) ≤ mn n * (t - fs' n) := Nat.mul_le_mul_left _ (by omega)
    show letN mn fs t n + _ ≤ letN mn fs' t n + _
    omega
theorem letN_le (ht : t ≤ 2000) : ∀ n, (∀ s, s < n → mn s ≤ 9) → letN mn fs t n ≤ 18000 * n := by
  intro n
  induction n with
  | zero => intro _; exact Nat.le_refl _
  | succ n ih =>
    intro h
    have h0 := ih (fun s hs => h s (by omega))
    have h1 : mn n * (t - fs n) ≤ 9 * 2000 := Nat.mul_le_mul (h n (by omega)) (by omega)
    show letN mn fs t n + _ ≤ _
    omega
theorem letN_ge : ∀ n, s < n → mn s * (t - fs s) ≤ letN mn fs t n := by
  intro n
  induction n with
  | zero => intro h; exact absurd h (Nat.not_lt_zero _)
  | succ n ih =>
    intro h
    show _ ≤ letN mn fs t n + _
    by_cases r : s = n
    · subst r
      omega
    · have := ih (by omega)
      omega
theorem menN_sub : ∀ n, (∀ b, b < n → (g'.testBit b = true ↔ g.testBit b = true ∧ 0 < cw b)) → menN cw g' n = menN cw g n := by
  intro n
  induction n with
  | zero => intro _; rfl
  | succ n ih =>
    intro h
    have h0 := ih (fun b hb => h b (by omega))
    have h1 := h n (by omega)
    by_cases q : g.testBit n = true
    · rw [menN_y q]
      by_cases c : 0 < cw n
      · rw [menN_y (h1.mpr ⟨q, c⟩), h0]
      · rw [menN_n (fun z => c (h1.mp z).2), h0]; omega
    · rw [menN_n q, menN_n (fun z => q (h1.mp z).1), h0]
theorem menN_z : ∀ n, menN cw 0 n = 0 := by
  intro n
  induction n with
  | zero => rfl
  | succ n ih => rw [menN_n (by simp), ih]
end
/-- how many a group's stairs let off in t minutes -/
def letG (bc sn : Nat) (mn : Nat → Nat) (dd : Nat → Nat → Nat) (g t : Nat) : Nat := letN mn (fun s => fsN dd g s bc) t sn
/-- groups of booths with a crowd -/
def subP (bc : Nat) (cp : Nat → Prop) (g : Nat) : Prop := ∀ i, i < 32 → g.testBit i = true → i < bc ∧ cp i
/-- groups of booths that are set -/
def setP (bc : Nat) (st : Nat → Prop) (g : Nat) : Prop := ∀ i, i < 10 → g.testBit i = true → i < bc ∧ st i
def stkP (bc sn : Nat) (cp : Nat → Prop) (dd : Nat → Nat → Nat) : Prop := ∃ b, b < bc ∧ cp b ∧ ∀ s, s < sn → dd b s = 9999
def canP (bc sn : Nat) (st : Nat → Prop) (cw mn : Nat → Nat) (dd : Nat → Nat → Nat) (t : Nat) : Prop := ∀ g, 1 ≤ g → g < 2 ^ bc → setP bc st g → menN cw g bc ≤ letG bc sn mn dd g t
/-- what the class finds among groups below K -/
def soK (K bc sn : Nat) (cp : Nat → Prop) (cw mn : Nat → Nat) (dd : Nat → Nat → Nat) (T : Nat) : Prop := T ≤ 2000 ∧ (∀ g, 1 ≤ g → g < K → subP bc cp g → T = 2000 ∨ menN cw g bc ≤ letG bc sn mn dd g T) ∧ ∀ u, u < T → ∃ g, 1 ≤ g ∧ g < K ∧ subP bc cp g ∧ letG bc sn mn dd g u < menN cw g bc
def soC (bc sn : Nat) (cp : Nat → Prop) (cw mn : Nat → Nat) (dd : Nat → Nat → Nat) (T : Nat) : Prop := soK (2 ^ bc) bc sn cp cw mn dd T
/-- what the reference finds -/
def soM (bc sn : Nat) (st : Nat → Prop) (cw mn : Nat → Nat) (dd : Nat → Nat → Nat) (R : Nat) : Prop := R ≤ 1200 ∧ (R = 1200 ∨ canP bc sn st cw mn dd R) ∧ ∀ u, u < R → ¬ canP bc sn st cw mn dd u
/-- the least late group -/
def ltP (Z : Nat → Prop) (bc : Nat) (cw : Nat → Nat) (L : Nat → Nat) (r : Int32) : Prop := (r = (-1) ∧ ∀ g, 1 ≤ g → g < 2 ^ bc → Z g → ¬ L g < menN cw g bc) ∨ ∃ g, r = nI g ∧ 1 ≤ g ∧ g < 2 ^ bc ∧ Z g ∧ L g < menN cw g bc ∧ ∀ g', 1 ≤ g' → g' < g → Z g' → ¬ L g' < menN cw g' bc
section
variable {bc sn c g t : Nat} {st cp : Nat → Prop} {cw mn : Nat → Nat} {dd : Nat → Nat → Nat}
theorem p2_10 (h : bc ≤ 10) : 2 ^ bc ≤ 1024 := (p2_le bc h).2
theorem bit_lt (h : bc ≤ 10) (hg : g < 2 ^ bc) {i : Nat} (t : g.testBit i = true) : i < 10 := by
  rcases Nat.lt_or_ge i 10 with q | q
  · exact q
  · have h1 := p2_10 h
    have h2 : (2 : Nat) ^ 10 ≤ 2 ^ i := Nat.pow_le_pow_right (by decide) q
    have h3 : g < 2 ^ i := Nat.lt_of_lt_of_le (Nat.lt_of_lt_of_le hg h1) h2
    rw [Nat.testBit_lt_two_pow h3] at t
    exact absurd t (by decide)
theorem sub_set (hbc : bc ≤ 10) (hcp : ∀ b, cp b → st b) (h : subP bc cp g) : setP bc st g := fun i hi t => ⟨(h i (by omega) t).1, hcp i (h i (by omega) t).2⟩
/-- a group without those who have no crowd -/
theorem crop (hbc : bc ≤ 10) (hc : ∀ j, j < 32 → (c.testBit j = true ↔ j < bc ∧ cp j)) (hcp : ∀ b, cp b ↔ (st b ∧ 0 < cw b)) (hg : g < 2 ^ bc) (hs : setP bc st g) : (g &&& c) ≤ g ∧ subP bc cp (g &&& c) ∧ menN cw (g &&& c) bc = menN cw g bc ∧ letG bc sn mn dd (g &&& c) t ≤ letG bc sn mn dd g t := by
  have tb : ∀ i, (g &&& c).testBit i = true ↔ (g.testBit i = true ∧ c.testBit i = true) := by
    intro i
    rw [Nat.testBit_and, Bool.and_eq_true]
  refine ⟨Nat.and_le_left, fun i hi q => (hc i hi).mp ((tb i).mp q).2, menN_sub bc (fun b hb => ?_), letN_fs sn (fun s hs => fsN_sub bc (fun b hb q => ((tb b).mp q).1))⟩
  rw [tb b]
  refine ⟨fun q => ⟨q.1, ((hcp b).mp ((hc b (by omega)).mp q.2).2).2⟩, fun q => ⟨q.1, (hc b (by omega)).mpr ⟨hb, (hcp b).mpr ⟨(hs b (by omega) q.1).2, q.2⟩⟩⟩⟩
theorem men_pos (h : 0 < menN cw g bc) : 1 ≤ g := by
  rcases Nat.eq_zero_or_pos g with q | q
  · rw [q, menN_z] at h
    exact absurd h (Nat.not_lt_zero _)
  · exact q
theorem can_iff (hbc : bc ≤ 10) (hc : ∀ j, j < 32 → (c.testBit j = true ↔ j < bc ∧ cp j)) (hcp : ∀ b, cp b ↔ (st b ∧ 0 < cw b)) : canP bc sn st cw mn dd t ↔ ∀ g, 1 ≤ g → g < 2 ^ bc → subP bc cp g → menN cw g bc ≤ letG bc sn mn dd g t := by
  refine ⟨fun h g h1 h2 h3 => h g h1 h2 (sub_set hbc (fun b q => ((hcp b).mp q).1) h3), fun h g h1 h2 h3 => ?_⟩
  obtain ⟨k1, k2, k3, k4⟩ := crop (sn := sn) (mn := mn) (dd := dd) (t := t) hbc hc hcp h2 h3
  by_cases z : 0 < menN cw (g &&& c) bc
  · have := h _ (men_pos z) (by omega) k2
    omega
  · omega
theorem can_big (hbc : bc ≤ 10) (hcw : ∀ b, b < bc → cw b ≤ 99) (hmn : ∀ s, s < sn → 1 ≤ mn s) (hn : ¬ stkP bc sn cp dd) (hdd : ∀ b s, b < bc → cp b → s < sn → okD (dd b s)) : ∀ g, 1 ≤ g → g < 2 ^ bc → subP bc cp g → menN cw g bc ≤ letG bc sn mn dd g 1200 := by
  intro g h1 h2 h3
  obtain ⟨i, ti⟩ := Nat.exists_testBit_of_ne_zero (x := g) (by omega)
  have hi := bit_lt hbc h2 ti
  have hq := h3 i (by omega) ti
  have hm := menN_le (g := g) bc hcw
  by_cases z : ∃ s, s < sn ∧ ¬ dd i s = 9999
  · obtain ⟨s, hs, ns⟩ := z
    have hd := (hdd i s hq.1 hq.2 hs).resolve_left ns
    have hf := fsN_le (dd := dd) (s := s) bc hq.1 ti
    have hl := letN_ge (mn := mn) (fs := fun s => fsN dd g s bc) (t := 1200) sn hs
    have hk : 1 * 1100 ≤ mn s * (1200 - fsN dd g s bc) := Nat.mul_le_mul (hmn s hs) (by omega)
    show menN cw g bc ≤ letN mn (fun s => fsN dd g s bc) 1200 sn
    have hl' : mn s * (1200 - fsN dd g s bc) ≤ letN mn (fun s => fsN dd g s bc) 1200 sn := hl
    omega
  · exact absurd ⟨i, hq.1, hq.2, fun s hs => Classical.byContradiction (fun q => z ⟨s, hs, q⟩)⟩ hn
theorem can_mono {t' : Nat} (h : canP bc sn st cw mn dd t) (l : t ≤ t') : canP bc sn st cw mn dd t' := fun g h1 h2 h3 => Nat.le_trans (h g h1 h2 h3) (letN_mono l sn)
theorem soon_two {T R : Nat} (hbc : bc ≤ 10) (hc : ∀ j, j < 32 → (c.testBit j = true ↔ j < bc ∧ cp j)) (hcp : ∀ b, cp b ↔ (st b ∧ 0 < cw b)) (hcw : ∀ b, b < bc → cw b ≤ 99) (hmn : ∀ s, s < sn → 1 ≤ mn s) (hn : ¬ stkP bc sn cp dd) (hdd : ∀ b s, b < bc → cp b → s < sn → okD (dd b s)) (a : soC bc sn cp cw mn dd T) (d : soM bc sn st cw mn dd R) : T = R := by
  have hb := can_big hbc hcw hmn hn hdd
  have l1 : T ≤ 1200 := by
    rcases Nat.lt_or_ge 1200 T with q | q
    · obtain ⟨g, g1, g2, g3, g4⟩ := a.2.2 1200 q
      have := hb g g1 g2 g3
      omega
    · exact q
  have cT : canP bc sn st cw mn dd T := (can_iff hbc hc hcp).mpr (fun g g1 g2 g3 => (a.2.1 g g1 g2 g3).resolve_left (by omega))
  have nT : ∀ u, u < T → ¬ canP bc sn st cw mn dd u := by
    intro u hu q
    obtain ⟨g, g1, g2, g3, g4⟩ := a.2.2 u hu
    have := (can_iff hbc hc hcp).mp q g g1 g2 g3
    omega
  rcases Nat.lt_or_ge R T with q | q
  · rcases d.2.1 with e | e
    · omega
    · exact absurd e (nT R q)
  · rcases Nat.lt_or_ge T R with q2 | q2
    · exact absurd cT (d.2.2 T q2)
    · omega
theorem late_two {L : Nat → Nat} {r rm : Int32} (hbc : bc ≤ 10) (hc : ∀ j, j < 32 → (c.testBit j = true ↔ j < bc ∧ cp j)) (hcp : ∀ b, cp b ↔ (st b ∧ 0 < cw b)) (hL : L = fun g => letG bc sn mn dd g t) (a : ltP (subP bc cp) bc cw L r) (d : ltP (setP bc st) bc cw L rm) : r = rm := by
  subst hL
  have key : ∀ g, g < 2 ^ bc → setP bc st g → letG bc sn mn dd g t < menN cw g bc → 1 ≤ (g &&& c) ∧ (g &&& c) ≤ g ∧ subP bc cp (g &&& c) ∧ letG bc sn mn dd (g &&& c) t < menN cw (g &&& c) bc := by
    intro g h2 h3 h4
    obtain ⟨k1, k2, k3, k4⟩ := crop (sn := sn) (mn := mn) (dd := dd) (t := t) hbc hc hcp h2 h3
    exact ⟨men_pos (cw := cw) (bc := bc) (by omega), k1, k2, by omega⟩
  have ss : ∀ g, subP bc cp g → setP bc st g := fun g h => sub_set hbc (fun b q => ((hcp b).mp q).1) h
  rcases a with ⟨e, n⟩ | ⟨g, e, g1, g2, g3, g4, g5⟩ <;> rcases d with ⟨e', n'⟩ | ⟨g', e', g1', g2', g3', g4', g5'⟩
  · exact e.trans e'.symm
  · obtain ⟨k1, k2, k3, k4⟩ := key g' g2' g3' g4'
    exact absurd k4 (n _ k1 (by omega) k3)
  · exact absurd g4 (n' g g1 g2 (ss g g3))
  · have l1 : g' ≤ g := by
      rcases Nat.lt_or_ge g g' with q | q
      · exact absurd g4 (g5' g g1 q (ss g g3))
      · exact q
    have l2 : g ≤ g' := by
      obtain ⟨k1, k2, k3, k4⟩ := key g' g2' g3' g4'
      rcases Nat.lt_or_ge (g' &&& c) g with q | q
      · exact absurd k4 (g5 _ k1 q k3)
      · omega
    rw [e, e', show g = g' by omega]
end
end ST23
section ST24
section
variable {K bc sn c g t i q mi : Nat} {st cp p : Nat → Prop} {cw mn fs : Nat → Nat} {dd : Nat → Nat → Nat}
theorem soK_0 : soK 1 bc sn cp cw mn dd 0 := ⟨Nat.zero_le _, fun g h1 h2 => by omega, fun u h => absurd h (Nat.not_lt_zero u)⟩
theorem soK_n (h : soK K bc sn cp cw mn dd mi) (n : ¬ subP bc cp K) : soK (K + 1) bc sn cp cw mn dd mi := by
  refine ⟨h.1, fun g h1 h2 h3 => ?_, fun u hu => ?_⟩
  · by_cases r : g = K
    · rw [r] at h3; exact absurd h3 n
    · exact h.2.1 g h1 (by omega) h3
  · obtain ⟨g, g1, g2, g3, g4⟩ := h.2.2 u hu
    exact ⟨g, g1, by omega, g3, g4⟩
theorem soK_y (h : soK K bc sn cp cw mn dd mi) (k1 : 1 ≤ K) (s : subP bc cp K) (l1 : mi ≤ q) (l2 : q ≤ 2000) (a : q = 2000 ∨ menN cw K bc ≤ letN mn (fun s => fsN dd K s bc) q sn) (b : ∀ u, mi ≤ u → u < q → letN mn (fun s => fsN dd K s bc) u sn < menN cw K bc) : soK (K + 1) bc sn cp cw mn dd q := by
  refine ⟨l2, fun g h1 h2 h3 => ?_, fun u hu => ?_⟩
  · by_cases r : g = K
    · subst r; exact a
    · rcases h.2.1 g h1 (by omega) h3 with z | z
      · exact Or.inl (by omega)
      · exact Or.inr (Nat.le_trans z (letN_mono l1 sn))
  · rcases Nat.lt_or_ge u mi with z | z
    · obtain ⟨g, g1, g2, g3, g4⟩ := h.2.2 u z
      exact ⟨g, g1, by omega, g3, g4⟩
    · exact ⟨K, k1, by omega, s, b u z hu⟩
/-- the booths with a crowd, as bits -/
def cbP (c n : Nat) (p : Nat → Prop) : Prop := c < 1024 ∧ ∀ j, j < 32 → (c.testBit j = true ↔ j < n ∧ p j)
theorem cb_0 : cbP 0 0 p := ⟨by decide, fun j _ => ⟨fun q => by rw [Nat.zero_testBit] at q; exact absurd q (by decide), fun q => absurd q.1 (Nat.not_lt_zero j)⟩⟩
theorem cb_n (h : cbP c i p) (n : ¬ p i) : cbP c (i + 1) p := by
  refine ⟨h.1, fun j hj => ?_⟩
  rw [h.2 j hj]
  refine ⟨fun q => ⟨by omega, q.2⟩, fun q => ⟨?_, q.2⟩⟩
  by_cases r : j = i
  · exact absurd (r ▸ q.2) n
  · have := q.1
    omega
theorem cb_y (h : cbP c i p) (hi : i < 10) (y : p i) : cbP (c ||| 2 ^ i) (i + 1) p := by
  refine ⟨?_, fun j hj => ?_⟩
  · have h1 : 2 ^ i < 2 ^ 10 := Nat.pow_lt_pow_right (by decide) hi
    exact Nat.or_lt_two_pow (n := 10) h.1 h1
  · rw [Nat.testBit_or, Bool.or_eq_true, h.2 j hj, Nat.testBit_two_pow, decide_eq_true_eq]
    refine ⟨fun q => ?_, fun q => ?_⟩
    · rcases q with q | q
      · exact ⟨by omega, q.2⟩
      · subst q; exact ⟨by omega, y⟩
    · by_cases r : j = i
      · exact Or.inr r.symm
      · have := q.1
        exact Or.inl ⟨by omega, q.2⟩
theorem cb_sub (hb : cbP c bc p) : (nI g &&& (nI c ^^^ (-1)) = 0) ↔ subP bc p g := by
  rw [sub_bit]
  exact ⟨fun h j hj t => (hb.2 j hj).mp (h j hj t), fun h j hj t => (hb.2 j hj).mpr (h j hj t)⟩
theorem ms_s {B5 t3 g' : Nat → Int32} {Z : Nat → Nat → Nat → Prop} {r : Int32} (h4 : sn ≤ 4) (ht : t < sn) (h : ∀ b s, b < bc → B5 b = 1 → s < sn → (s < t ∨ (s = t ∧ b < i)) → lsQ (Z b s) 100 (t3 (b * 4 + s))) (k : B5 i = 1 → lsQ (Z i t) 100 r) (e : g' = upd t3 (i * 4 + t) r) : ∀ b s, b < bc → B5 b = 1 → s < sn → (s < t ∨ (s = t ∧ b < i + 1)) → lsQ (Z b s) 100 (g' (b * 4 + s)) := by
  intro b s h1 h2 h3 h5
  subst e
  by_cases r9 : b = i ∧ s = t
  · rw [r9.1, r9.2, pk_us]; exact k (r9.1 ▸ h2)
  · rw [pk_un (by omega)]
    exact h b s h1 h2 h3 (by omega)
theorem let_n (h : t ≤ fs i) : letN mn fs t i = letN mn fs t (i + 1) := by
  show _ = letN mn fs t i + mn i * (t - fs i)
  rw [Nat.sub_eq_zero_of_le h, Nat.mul_zero, Nat.add_zero]
theorem stk_iff {s3 : Nat → Int32} {B5 : Nat → Int32} (hb : cbP c bc (fun j => B5 j = 1 ∧ 0 < cw j)) (hbc : bc ≤ 10) (hT : ∀ b s, b < bc → B5 b = 1 → s < sn → s3 (b * 4 + s) = dv (dd b s) ∧ okD (dd b s)) : (∃ b, b < bc ∧ c.testBit b = true ∧ ∀ s, s < sn → s3 (b * 4 + s) = (-1)) ↔ stkP bc sn (fun j => B5 j = 1 ∧ 0 < cw j) dd := by
  constructor
  · intro h
    obtain ⟨b, h1, h2, h3⟩ := h
    have q := ((hb.2 b (by omega)).mp h2).2
    exact ⟨b, h1, q, fun s hs => (dv_m1 (hT b s h1 q.1 hs).2).mp ((hT b s h1 q.1 hs).1.symm.trans (h3 s hs))⟩
  · intro h
    obtain ⟨b, h1, h2, h3⟩ := h
    exact ⟨b, h1, (hb.2 b (by omega)).mpr ⟨h1, h2⟩, fun s hs => (hT b s h1 h2.1 hs).1.trans ((dv_m1 (hT b s h1 h2.1 hs).2).mpr (h3 s hs))⟩
def cwU (B4 : Nat → Int32) (b : Nat) : Nat := uN (B4 b)
end
end ST24
