section XS
/-- what the static row of the usual numbers holds -/
def uF : Nat → Int32 := fun j => match j with
  | 0 => 100 | 1 => 1 | 2 => 0 | 3 => 0 | 4 => 1 | 5 => 99 | 6 => 1 | _ => 0
/-- the static row of the usual numbers lies at us, out of the way of the cells that may change -/
def xU (us : Nat) : (Nat → Prop) → State → Prop := fun A U => va_Z "IceFair$Customs" "USUAL" "[I" (.ref us) A U U.heap ∧ va_X us 8 uF U U.heap ∧ us < U.heap.size ∧ ¬ A us
theorem xU_move (us : Nat) : xMove (xU us) := by
  intro A U V hvm hh h
  obtain ⟨h1, h2, h3, h4⟩ := h
  have al : U.vm.Alike V.vm := by rw [hvm]; exact Vm.Alike.refl _
  exact ⟨by rw [hh]; exact va_Z.moved al h1, by rw [hh]; exact va_X.moved al h2, by rw [hh]; exact h3, h4⟩
theorem xU_use {us : Nat} {s : State} {A : Nat → Prop} {H : Heap} {locs : List Loc} {wc : va_W} (hX : xU us A s) (hS : va_S A s.heap H locs) (hF : ∀ q, va_A wc H.size q → A q) : ∀ U : State, U.heap = H → s.WarmedH U.vm → xU us (va_A wc H.size) U := by
  intro U hU hW
  obtain ⟨h1, h2, h3, h4⟩ := hX
  have hlt : us < H.size := Nat.lt_of_lt_of_le h3 hS.1
  exact ⟨by rw [hU]; exact va_Z.moved hW.alike ((h1.kept hS.2.1).narrow hF), by rw [hU]; exact va_X.moved hW.alike (h2.kept (hS.2.1 us h3 h4)), by rw [hU]; exact hlt, fun q => h4 (hF us q)⟩
/-- what Fair() asks beside: the nest mate's constructor, the class of its row of booths -/
def xF (us : Nat) : (Nat → Prop) → State → Prop := fun A U => xU us A U ∧ va_Nw (.methodLinkNest RX3 31 yX0_init "IceFair") U ∧ va_AO RX0 U
theorem xF_move (us : Nat) : xMove (xF us) := by
  intro A U V hvm hh h
  have al : U.vm.Alike V.vm := by rw [hvm]; exact Vm.Alike.refl _
  exact ⟨xU_move us A U V hvm hh h.1, va_Nw.same rfl hvm h.2.1, va_AO.moved al h.2.2⟩
theorem xF_use {us : Nat} {s : State} {A : Nat → Prop} {H : Heap} {locs : List Loc} {wc : va_W} (hX : xF us A s) (hS : va_S A s.heap H locs) (hF : ∀ q, va_A wc H.size q → A q) : ∀ U : State, U.heap = H → s.WarmedH U.vm → xF us (va_A wc H.size) U :=
  fun U hU hW => ⟨xU_use hX.1 hS hF U hU hW, va_Nw.warmM hW hX.2.1, va_AO.moved hW.alike hX.2.2⟩
/-- an array's numbers may be told by another function that says the same of its places -/
theorem vp_cell_c {cA : ClassId} {n : Nat} {f g : Nat → Int32} (h : ∀ j, j < n → f j = g j) : vp_cell cA (n, .inl f) = vp_cell cA (n, .inl g) := by
  rw [vp_cell_i, vp_cell_i]
  unfold arrV
  congr 1
  apply Array.ext (by simp)
  intro i h1 h2
  simp only [Array.getElem_ofFn]
  rw [h i (by simpa using h1)]
theorem va_P_arr {D : va_G} {cl : List vw_C} {ws : va_W} {H : Heap} (hP : va_P D cl ws H) (k : Nat) {a : Nat} {cA : ClassId} {n : Nat} {f : Nat → Int32} (g : Nat → Int32) (hk : ws[k]? = some (a, .inl (cA, n, .inl f))) (h : ∀ j, j < n → f j = g j) : va_P D cl (ws.set k (a, .inl (cA, n, .inl g))) H := by
  intro i q hq
  by_cases hi : k = i
  · subst hi
    have hlt : k < ws.length := (List.getElem?_eq_some_iff.mp hk).1
    rw [List.getElem?_set_self hlt] at hq
    cases hq
    have h0 := hP k _ hk
    show H[a]? = some (vp_cell cA (n, .inl g))
    rw [← vp_cell_c h]
    exact h0
  · rw [List.getElem?_set_ne hi] at hq
    exact hP i q hq
theorem m_out (x : Int32) {lo hi : Int} (h1 : -2147483648 ≤ lo) (h2 : hi < 2147483648) (h : ∀ j : Int, lo ≤ j → j ≤ hi → ¬ x = Int32.ofInt j) : x.toInt < lo ∨ hi < x.toInt := by
  rcases Int.lt_or_le x.toInt lo with a | a
  · exact Or.inl a
  rcases Int.lt_or_le hi x.toInt with b | b
  · exact Or.inr b
  exact absurd (Int32.ofInt_toInt x).symm (h x.toInt a b)
variable {p : Program} {l : Launch} {e : Env} {R : Room} {s : State} {m : MethodId} {args : Array Value} {below : List Frame} {meth : Method} {c : Code} {H : Heap} {locs : List Loc} {cells slots : Nat} {Q : State → Prop}
variable {cc : ByteArray} {nL pc : Nat} {ls : Array Slot} {rest st : List Value} {D : va_G} {A : Nat → Prop} {tys : List (ClassId × FieldType)} {ws : va_W} {own : String}
def kN (R : Room) (y : MethodName) (bytes : ByteArray) (maxL : Nat) (rm : Room) (n : Nat) : Prop :=
  (Cond.code y bytes maxL none ∈ gw ∧ Cond.instanceMethod y ∈ gw ∧ Cond.initialized y.cls ∈ gw) ∧ y.name = "<init>" ∧ (y.cls ≠ "java/lang/invoke/MethodHandle" ∧ y.cls ≠ "java/lang/invoke/VarHandle" ∧ (parseMethodDescriptor y.desc).map (fun d => d.parameters.length) = some n) ∧ rm.frames + 1 ≤ R.frames ∧ 8 + (maxL + 11) + rm.locals ≤ R.locals
/-- a call of a nest mate's private constructor -/
theorem mc_Nv {idx : Nat} {host : String} {y : MethodName} {bytes : ByteArray} {maxL n : Nat} {rm : Room} {tyc : List (ClassId × FieldType)} {wc wr : va_W} {X : (Nat → Prop) → State → Prop} {As : List Value} {S : Type} {post : S → Prop} {tys1 : S → List (ClassId × FieldType)} {w1 : S → va_W} {b : Nat}
    (F : mFix p s m args c cc nL own) (hK : va_K D vwCl tys s) (hP : va_P D vwCl ws H) (hD : va_D A ws) (hS : va_S A s.heap H locs) (hA : ∀ q, s.heap.size ≤ q → A q)
    (hM : cV l y (.code y bytes maxL none) rm D tyc wc X (.ref b :: As) post tys1 w1) (k : kN R y bytes maxL rm n) (hN : va_Nw (.methodLinkNest own idx y host) s) (isC isR isT : List Nat) (hC : mCut ws wc wr isC isR) (hT : isT.filterMap (fun i => tys[i]?) = tyc) (hXm : xMove X) (hX : ∀ U : State, U.heap = H → s.WarmedH U.vm → X (va_A wc H.size) U)
    (hn : As.length = n) (hls : ls.size = nL) (hst : st = As.reverse ++ .ref b :: rest) (hroom : (rest.map fun v => v.category).sum ≤ 8) (hdg : decode cc pc = .ok (.invokespecial idx, 3)) (hf : cells + rm.cells ≤ R.cells ∧ slots + rm.slots ≤ R.slots)
    (kk : ∀ (u : S) (H1 : Heap) (locs1 : List Loc), post u → va_K D vwCl (tys1 u) s → va_P D vwCl (wr ++ w1 u) H1 → va_D A (wr ++ w1 u) → va_S A s.heap H1 locs1 → W p l e R s m args below meth c H1 locs1 (cells + rm.cells) (slots + rm.slots) Q (F0 m (pc + 3) ls rest)) :
    W p l e R s m args below meth c H locs cells slots Q (F0 m pc ls st) := by
  subst hst
  obtain ⟨hx, hb, hml, hown, hts⟩ := F
  have hFc := va_free (wc := wc) hD hS hA isC hC.1
  exact va_callv (va_runIN (As := As) (rest := rest) ⟨hx, hb, hml, hown, hts⟩ (hM H.size) ⟨va_cnB n hts (gi_c k.1.1) rfl rfl rfl hN (hts _ k.1.2.2) k.2.2.1 k.2.2.2, k.2.1, hts _ k.1.2.1⟩ ⟨mPre_blind hXm, m_pre hK hP hD hC hT hX⟩ rfl hn hls rfl (lv_room hroom) hdg hf) hS (fun q _ h => hFc q h) hFc
    (fun u t H1 locs1 ht hvm hw hB _ hk1 hS1 => by
      obtain ⟨a1, a2, a3⟩ := m_back hP hD hS hA hC ht hvm hB hk1
      exact kk u H1 locs1 hw a1 a2 a3 hS1)
end XS
