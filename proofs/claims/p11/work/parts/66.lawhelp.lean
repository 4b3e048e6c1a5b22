section LAWH
theorem va_Xof8 {args : Array Value} {s : State} {tm : Term} (harr : (Cond.arrayOf tm .int).before args s = true) (hlen : (Cond.eq (.length tm) (.int 8)).before args s = true) (hel : ∀ j : Nat, j < 8 → (Cond.eq (.elem tm (.int (Int32.ofNat j))) (.int (uF j))).before args s = true) : ∃ t : Nat, tm.eval args s none [] s = some (.ref t) ∧ va_X t 8 uF s s.heap ∧ t < s.heap.size := by
  have hl := va_eqt hlen
  obtain ⟨t, cell, ht, hat, hv⟩ := Term.length_spec hl
  have hsz : cell.slots.size < 2 ^ 31 := by
    simp only [Term.eval, ht, hat, Option.bind_eq_bind, Option.bind_some] at hl
    by_cases h : cell.slots.size < 2147483648
    · exact h
    · simp [h] at hl
  have h8 : cell.slots.size = 8 := (nI_eq hsz (by decide)).mp (Value.int.inj hv).symm
  obtain ⟨hcell, hkn, -, -⟩ := State.arrayAt?_spec hat
  obtain ⟨hof, -⟩ := Cond.arrayOf_spec harr ht hcell
  refine ⟨t, ht, ⟨cell, hcell, hof, hkn, h8, fun j hj => ?_⟩, (Array.getElem?_eq_some_iff.mp hcell).1⟩
  obtain ⟨a, i, cell2, h1, h2, h3, h4, h5⟩ := Term.elem_spec (va_eqt (hel j hj))
  cases ht.symm.trans h1
  cases hat.symm.trans h3
  have hi : i = Int32.ofNat j := by
    have e : (Term.int (Int32.ofNat j)).eval args s none [] s = some (.int (Int32.ofNat j)) := rfl
    cases h2.symm.trans e
    rfl
  have hc : i.toNatClampNeg = j := by rw [hi]; exact Int32.toNatClampNeg_ofNat_of_lt (by omega)
  rw [hc] at h5
  exact h5
abbrev tU : Term := .static "IceFair$Customs" "USUAL" "[I"
/-- what the start gives of statics, strings, words that do not ride by themselves -/
theorem law_xs {s : State} {b : Nat} {A : Nat → Prop} (hts : ∀ w ∈ lw_tbl, w.before #[Value.ref b] s = true) (hgv : (Jvm.Cond.and given_1 narrow_1).before #[Value.ref b] s = true) (hA : ∀ a : Nat, a < s.heap.size → ¬ A a) :
    ∃ us e1 e2 e3 e4 : Nat, xF us A s ∧ xE e1 e2 e3 e4 A s := by
  have hs := flat_of_before _ hgv
  obtain ⟨us, hus, hX, hlt⟩ := va_Xof8 (tm := tU) (hs (.arrayOf tU .int) (by decide +kernel)) (hs (.eq (.length tU) (.int 8)) (by decide +kernel)) (fun j hj => by
    rcases (show j = 0 ∨ j = 1 ∨ j = 2 ∨ j = 3 ∨ j = 4 ∨ j = 5 ∨ j = 6 ∨ j = 7 by omega) with rfl | rfl | rfl | rfl | rfl | rfl | rfl | rfl
    · exact hs (.eq (.elem tU (.int 0)) (.int 100)) (by decide +kernel)
    · exact hs (.eq (.elem tU (.int 1)) (.int 1)) (by decide +kernel)
    · exact hs (.eq (.elem tU (.int 2)) (.int 0)) (by decide +kernel)
    · exact hs (.eq (.elem tU (.int 3)) (.int 0)) (by decide +kernel)
    · exact hs (.eq (.elem tU (.int 4)) (.int 1)) (by decide +kernel)
    · exact hs (.eq (.elem tU (.int 5)) (.int 99)) (by decide +kernel)
    · exact hs (.eq (.elem tU (.int 6)) (.int 1)) (by decide +kernel)
    · exact hs (.eq (.elem tU (.int 7)) (.int 0)) (by decide +kernel))
  have str : ∀ (k : Nat) (tx : String), (Cond.stringRef "IceFair" k tx).before #[Value.ref b] s = true → (Cond.exactly (.string "IceFair" k) "java/lang/String").before #[Value.ref b] s = true → ∃ a : Nat, vk_R RX9 k tx a s := by
    intro k tx h1 h2
    obtain ⟨a, _, _, _, h3, -⟩ := Cond.exactly_spec h2
    exact ⟨a, vk_R.of h1 h3⟩
  obtain ⟨e1, q1⟩ := str 144 "no such cell" (hts _ (by decide +kernel)) (hs _ (by decide +kernel))
  obtain ⟨e2, q2⟩ := str 178 "no such what of a cell" (hts _ (by decide +kernel)) (hs _ (by decide +kernel))
  obtain ⟨e3, q3⟩ := str 181 "no such booth" (hts _ (by decide +kernel)) (hs _ (by decide +kernel))
  obtain ⟨e4, q4⟩ := str 197 "no such what of a booth" (hts _ (by decide +kernel)) (hs _ (by decide +kernel))
  refine ⟨us, e1, e2, e3, e4, ⟨⟨va_Zof (hts (.laysStatic "IceFair$Customs" "USUAL" "[I") (by decide +kernel)) (hts (.initialized "IceFair$Customs") (by decide +kernel)) hus hA, hX, hlt, hA us hlt⟩, ?_, ?_⟩, ?_⟩
  · exact va_Nw.of rfl (hts (.methodLinkNest RX3 31 yX0_init "IceFair") (by decide +kernel))
  · exact va_AO.of (hts (.arrayOver (.object RX0)) (by decide +kernel))
  · exact ⟨vx_Zqof (hts (.laysStatic Bundle.tN "UNASSIGNED_STACK" Bundle.steD) (by decide +kernel)) (hts (.initialized Bundle.tN) (by decide +kernel)) (hs (.isRef (.static Bundle.tN "UNASSIGNED_STACK" Bundle.steD)) (by decide +kernel)) hA,
      vx_Zqof (hts (.laysStatic Bundle.tN "SUPPRESSED_SENTINEL" Bundle.listD) (by decide +kernel)) (hts (.initialized Bundle.tN) (by decide +kernel)) (hs (.isRef (.static Bundle.tN "SUPPRESSED_SENTINEL" Bundle.listD)) (by decide +kernel)) hA,
      ⟨q1, q2, q3, q4⟩,
      ⟨va_Nw.of rfl (hts (.declares (Bundle.initS nRT)) (by decide +kernel)), va_Nw.of rfl (hts (.declares (Bundle.initS nEX)) (by decide +kernel)), va_Nw.of rfl (hts (.declares (Bundle.initS Bundle.tN)) (by decide +kernel))⟩,
      va_Nw.of rfl (hts (.castable nIO nIO) (by decide +kernel)), va_Nw.of rfl (hts (.castable nNS nNS) (by decide +kernel)), va_Nc.of (hs (.not (.castable nNS nIO)) (by decide +kernel))⟩
end LAWH
section LAWH5
def lkTm (i : Nat) : Term := .string "IceFair$LineKind" (([62, 68, 71, 74, 77, 80, 83] : List Nat).getD i 0)
abbrev lkSt (i : Nat) : Term := .static RX5 (enN.getD i "") "LIceFair$LineKind;"
abbrev lkAll : Term := .static RX5 "ALL" "[LIceFair$LineKind;"
abbrev lkVal (i : Nat) : Term := .field (lkTm i) "java/lang/String" "value" "[B"
/-- what the start gives of the kinds of lines -/
theorem law_xr {s : State} {b : Nat} {A : Nat → Prop} (hts : ∀ w ∈ lw_tbl, w.before #[Value.ref b] s = true) (hgv : (Jvm.Cond.and given_1 narrow_1).before #[Value.ref b] s = true) (hA : ∀ a : Nat, a < s.heap.size → ¬ A a) :
    ∃ en kk : Nat → Nat, xR en kk A s := by
  have hs := flat_of_before _ hgv
  obtain ⟨kk, kv, hK, hkev⟩ := vk_Sof (N := 7) (tm := lkTm) (len := stL) (byt := stB) (A := A) (args := #[Value.ref b]) (s := s) (by decide +kernel)
    (fun i hi => hs _ ((by decide +kernel : ∀ i, i < 7 → Cond.exactly (lkTm i) "java/lang/String" ∈ _) i hi))
    (fun i hi => hs _ ((by decide +kernel : ∀ i, i < 7 → Cond.eq (.field (lkTm i) "java/lang/String" "coder" "B") (.int 0) ∈ _) i hi))
    (fun i hi => hs _ ((by decide +kernel : ∀ i, i < 7 → Cond.arrayOf (lkVal i) .byte ∈ _) i hi))
    (fun i hi => hs _ ((by decide +kernel : ∀ i, i < 7 → Cond.eq (.length (lkVal i)) (.int (Int32.ofNat (stL.getD i 0))) ∈ _) i hi))
    (fun i hi j hj => hs _ ((by decide +kernel : ∀ i, i < 7 → ∀ j, j < stL.getD i 0 → Cond.eq (.elem (lkVal i) (.int (Int32.ofNat j))) (.int ((stB.getD i []).getD j 0)) ∈ _) i hi j hj))
    (fun i j hi hj hn => ((by decide +kernel : ∀ i, i < 7 → ∀ j, j < 7 → i ≠ j → (Cond.not (Cond.eq (lkTm i) (lkTm j)) ∈ _ ∨ Cond.not (Cond.eq (lkTm j) (lkTm i)) ∈ _)) i hi j hj hn).imp (hs _) (hs _)) hA
  obtain ⟨en, hE, heev⟩ := va_Enof2 (E := RX5) (d := "LIceFair$LineKind;") (nm := enN) (F := enF) (A := A) (args := #[Value.ref b]) (s := s)
    (fun i hi => hts _ ((by decide +kernel : ∀ i, i < 7 → Cond.laysStatic RX5 (enN.getD i "") "LIceFair$LineKind;" ∈ lw_tbl) i hi))
    (hts (.initialized RX5) (by decide +kernel))
    (fun i hi => hs _ ((by decide +kernel : ∀ i, i < 7 → Cond.exactly (lkSt i) RX5 ∈ _) i hi))
    (fun q hq i hi => hs _ ((by decide +kernel : ∀ q ∈ enF, ∀ i, i < 7 → Cond.eq (.field (lkSt i) q.1 q.2.1 q.2.2.1) (.int (q.2.2.2.getD i 0)) ∈ _) q hq i hi))
    (fun i j hi hj hn => ((by decide +kernel : ∀ i, i < 7 → ∀ j, j < 7 → i ≠ j → (Cond.not (Cond.eq (lkSt i) (lkSt j)) ∈ _ ∨ Cond.not (Cond.eq (lkSt j) (lkSt i)) ∈ _)) i hi j hj hn).imp (hs _) (hs _)) hA
  have hF := va_Efof (N := 7) (E := RX5) (d0 := "LIceFair$LineKind;") (o := RX5) (n := "word") (d := "Ljava/lang/String;") (nm := enN) (v := fun i => .ref (kk i)) (tm := lkTm) (ad := en) (A := A) (args := #[Value.ref b]) (s := s) heev
    (fun i hi => hs _ ((by decide +kernel : ∀ i, i < 7 → Cond.eq (.field (lkSt i) RX5 "word" "Ljava/lang/String;") (lkTm i) ∈ _) i hi)) hkev hA
  obtain ⟨al, hal, hT⟩ := va_Tof (tm := lkAll) (ty := .object RX5) (N := 7) (f := fun j => .ref (en j)) (A := A) (args := #[Value.ref b]) (s := s) (by decide) (hs _ (by decide +kernel)) (va_eqt (hs (.eq (.length lkAll) (.int 7)) (by decide +kernel)))
    (fun j hj => va_eqv (hs _ ((by decide +kernel : ∀ j, j < 7 → Cond.eq (.elem lkAll (.int (Int32.ofNat j))) (lkSt j) ∈ _) j hj)) (heev j hj)) hA
  exact ⟨en, kk, ⟨kv, hK, va_Zof (hts _ (by decide +kernel)) (hts _ (by decide +kernel)) (va_eqi (hs _ (by decide +kernel))) hA, va_Zqof (hts _ (by decide +kernel)) (hts _ (by decide +kernel)) (hs _ (by decide +kernel)) hA⟩, hE, hF, ⟨al, va_Zof (hts _ (by decide +kernel)) (hts _ (by decide +kernel)) hal hA, hT⟩, va_Nw.of rfl (hts _ (by decide +kernel))⟩
end LAWH5
section LAWD
def boF (ad : Nat → Nat) (k : Nat) : Nat → Nat := fun j => ad (k + j)
theorem lw_len {L i : Nat} (hL : L ≤ 3584) (hi : i ≤ 4000) (h : ¬ nI L - 7 < nI i) : i + 7 ≤ L := by
  rcases Nat.lt_or_ge L 7 with h7 | h7
  · exfalso
    apply h
    have h1 : nI L - nI 7 < 0 := pk_sneg (by decide) h7
    have h2 : (0 : Int32) ≤ nI i := by
      rw [Int32.le_iff_toInt_le, nI_toInt (by omega)]
      exact Int.natCast_nonneg i
    exact Int32.lt_of_lt_of_le h1 h2
  · have h1 : nI L - nI 7 = nI (L - 7) := nI_subN h7
    have h2 : ¬ nI (L - 7) < nI i := by rw [← h1]; exact h
    have h3 : ¬ L - 7 < i := fun q => h2 ((nI_ltI (by omega) (by omega)).mpr q)
    omega
end LAWD
