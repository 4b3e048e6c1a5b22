section LAWH
theorem lgc_self (x : Int64) : lg_cmp x x = 0 := by
  unfold lg_cmp
  simp
theorem va_Xof8 {args : Array Value} {s : State} {tm : Term} (harr : (Cond.arrayOf tm .int).before args s = true) (hlen : (Cond.eq (.length tm) (.int 8)).before args s = true) (hel : ∀ j : Nat, j < 8 → (Cond.eq (.elem tm (.int (Int32.ofNat j))) (.int (uF j))).before args s = true) : ∃ t : Nat, tm.eval args s none [] s = some (.ref t) ∧ va_X t 8 uF s s.heap ∧ t < s.heap.size := by
  have hl := va_eqt hlen
  obtain ⟨t, cell, ht, hat, hv⟩ := Term.length_spec hl
  have hsz : cell.slots.size < 2 ^ 31 := by
    simp only [Term.eval, ht, hat, Option.bind_eq_bind, Option.bind_some] at hl
    by_cases h : cell.slots.size < 2147483648
    · exact h
    · simp [h] at hl
  have h8 : cell.slots.size = 8 := (nI_eq hsz (by decide)).mp (Value.int.inj hv).symm
  obtain ⟨hcell, hkn, -, -⟩ := State.arrayAt?_spec hat
  obtain ⟨hof, -⟩ := Cond.arrayOf_spec harr ht hcell
  refine ⟨t, ht, ⟨cell, hcell, hof, hkn, h8, fun j hj => ?_⟩, (Array.getElem?_eq_some_iff.mp hcell).1⟩
  obtain ⟨a, i, cell2, h1, h2, h3, h4, h5⟩ := Term.elem_spec (va_eqt (hel j hj))
  cases ht.symm.trans h1
  cases hat.symm.trans h3
  have hi : i = Int32.ofNat j := by
    have e : (Term.int (Int32.ofNat j)).eval args s none [] s = some (.int (Int32.ofNat j)) := rfl
    cases h2.symm.trans e
    rfl
  have hc : i.toNatClampNeg = j := by rw [hi]; exact Int32.toNatClampNeg_ofNat_of_lt (by omega)
  rw [hc] at h5
  exact h5
abbrev tU : Term := .static "IceFair$Customs" "USUAL" "[I"
/-- what the start gives of statics, strings, words that do not ride by themselves -/
theorem law_xs {s : State} {b : Nat} {A : Nat → Prop} (hts : ∀ w ∈ lw_tbl, w.before #[Value.ref b] s = true) (hgv : (Jvm.Cond.and given_1 narrow_1).before #[Value.ref b] s = true) (hA : ∀ a : Nat, a < s.heap.size → ¬ A a) :
    ∃ us e1 e2 e3 e4 : Nat, xF us A s ∧ xE e1 e2 e3 e4 A s := by
  have hs := flat_of_before _ hgv
  obtain ⟨us, hus, hX, hlt⟩ := va_Xof8 (tm := tU) (hs (.arrayOf tU .int) (by decide +kernel)) (hs (.eq (.length tU) (.int 8)) (by decide +kernel)) (fun j hj => by
    rcases (show j = 0 ∨ j = 1 ∨ j = 2 ∨ j = 3 ∨ j = 4 ∨ j = 5 ∨ j = 6 ∨ j = 7 by omega) with rfl | rfl | rfl | rfl | rfl | rfl | rfl | rfl
    · exact hs (.eq (.elem tU (.int 0)) (.int 100)) (by decide +kernel)
    · exact hs (.eq (.elem tU (.int 1)) (.int 1)) (by decide +kernel)
    · exact hs (.eq (.elem tU (.int 2)) (.int 0)) (by decide +kernel)
    · exact hs (.eq (.elem tU (.int 3)) (.int 0)) (by decide +kernel)
    · exact hs (.eq (.elem tU (.int 4)) (.int 1)) (by decide +kernel)
    · exact hs (.eq (.elem tU (.int 5)) (.int 99)) (by decide +kernel)
    · exact hs (.eq (.elem tU (.int 6)) (.int 1)) (by decide +kernel)
    · exact hs (.eq (.elem tU (.int 7)) (.int 0)) (by decide +kernel))
  have str : ∀ (k : Nat) (tx : String), (Cond.stringRef "IceFair" k tx).before #[Value.ref b] s = true → (Cond.exactly (.string "IceFair" k) "java/lang/String").before #[Value.ref b] s = true → ∃ a : Nat, vk_R RX9 k tx a s := by
    intro k tx h1 h2
    obtain ⟨a, _, _, _, h3, -⟩ := Cond.exactly_spec h2
    exact ⟨a, vk_R.of h1 h3⟩
  obtain ⟨e1, q1⟩ := str 144 "no such cell" (hts _ (by decide +kernel)) (hs _ (by decide +kernel))
  obtain ⟨e2, q2⟩ := str 178 "no such what of a cell" (hts _ (by decide +kernel)) (hs _ (by decide +kernel))
  obtain ⟨e3, q3⟩ := str 181 "no such booth" (hts _ (by decide +kernel)) (hs _ (by decide +kernel))
  obtain ⟨e4, q4⟩ := str 197 "no such what of a booth" (hts _ (by decide +kernel)) (hs _ (by decide +kernel))
  refine ⟨us, e1, e2, e3, e4, ⟨⟨va_Zof (hts (.laysStatic "IceFair$Customs" "USUAL" "[I") (by decide +kernel)) (hts (.initialized "IceFair$Customs") (by decide +kernel)) hus hA, hX, hlt, hA us hlt⟩, ?_, ?_⟩, ?_⟩
  · exact va_Nw.of rfl (hts (.methodLinkNest RX3 31 yX0_init "IceFair") (by decide +kernel))
  · exact va_AO.of (hts (.arrayOver (.object RX0)) (by decide +kernel))
  · exact ⟨vx_Zqof (hts (.laysStatic Bundle.tN "UNASSIGNED_STACK" Bundle.steD) (by decide +kernel)) (hts (.initialized Bundle.tN) (by decide +kernel)) (hs (.isRef (.static Bundle.tN "UNASSIGNED_STACK" Bundle.steD)) (by decide +kernel)) hA,
      vx_Zqof (hts (.laysStatic Bundle.tN "SUPPRESSED_SENTINEL" Bundle.listD) (by decide +kernel)) (hts (.initialized Bundle.tN) (by decide +kernel)) (hs (.isRef (.static Bundle.tN "SUPPRESSED_SENTINEL" Bundle.listD)) (by decide +kernel)) hA,
      ⟨q1, q2, q3, q4⟩,
      ⟨va_Nw.of rfl (hts (.declares (Bundle.initS nRT)) (by decide +kernel)), va_Nw.of rfl (hts (.declares (Bundle.initS nEX)) (by decide +kernel)), va_Nw.of rfl (hts (.declares (Bundle.initS Bundle.tN)) (by decide +kernel))⟩,
      va_Nw.of rfl (hts (.castable nIO nIO) (by decide +kernel)), va_Nw.of rfl (hts (.castable nNS nNS) (by decide +kernel)), va_Nc.of (hs (.not (.castable nNS nIO)) (by decide +kernel))⟩
end LAWH
