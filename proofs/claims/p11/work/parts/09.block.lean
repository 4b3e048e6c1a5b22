section BLK
/-- the ten booths, by their places in the row of booths -/
abbrev bL (bo : Nat → Nat) (B1 B2 B3 B4 B5 B6 B7 : Nat → Int32) : va_W :=
  [(bo 0, .inr (0, [.int (B1 0), .int (B2 0), .int (B3 0), .int (B4 0), .int (B5 0), .int (B6 0), .int (B7 0)])),
   (bo 1, .inr (0, [.int (B1 1), .int (B2 1), .int (B3 1), .int (B4 1), .int (B5 1), .int (B6 1), .int (B7 1)])),
   (bo 2, .inr (0, [.int (B1 2), .int (B2 2), .int (B3 2), .int (B4 2), .int (B5 2), .int (B6 2), .int (B7 2)])),
   (bo 3, .inr (0, [.int (B1 3), .int (B2 3), .int (B3 3), .int (B4 3), .int (B5 3), .int (B6 3), .int (B7 3)])),
   (bo 4, .inr (0, [.int (B1 4), .int (B2 4), .int (B3 4), .int (B4 4), .int (B5 4), .int (B6 4), .int (B7 4)])),
   (bo 5, .inr (0, [.int (B1 5), .int (B2 5), .int (B3 5), .int (B4 5), .int (B5 5), .int (B6 5), .int (B7 5)])),
   (bo 6, .inr (0, [.int (B1 6), .int (B2 6), .int (B3 6), .int (B4 6), .int (B5 6), .int (B6 6), .int (B7 6)])),
   (bo 7, .inr (0, [.int (B1 7), .int (B2 7), .int (B3 7), .int (B4 7), .int (B5 7), .int (B6 7), .int (B7 7)])),
   (bo 8, .inr (0, [.int (B1 8), .int (B2 8), .int (B3 8), .int (B4 8), .int (B5 8), .int (B6 8), .int (B7 8)])),
   (bo 9, .inr (0, [.int (B1 9), .int (B2 9), .int (B3 9), .int (B4 9), .int (B5 9), .int (B6 9), .int (B7 9)]))]
abbrev bF (B1 B2 B3 B4 B5 B6 B7 : Nat → Int32) (j : Nat) : List Value := [.int (B1 j), .int (B2 j), .int (B3 j), .int (B4 j), .int (B5 j), .int (B6 j), .int (B7 j)]
variable {bo : Nat → Nat} {B1 B2 B3 B4 B5 B6 B7 : Nat → Int32} {wr : va_W}
theorem j10 {j : Nat} (h : j < 10) : j = 0 ∨ j = 1 ∨ j = 2 ∨ j = 3 ∨ j = 4 ∨ j = 5 ∨ j = 6 ∨ j = 7 ∨ j = 8 ∨ j = 9 := by omega
theorem bL_get {j : Nat} (h : j < 10) : (bL bo B1 B2 B3 B4 B5 B6 B7 ++ wr)[j]? = some (bo j, .inr (0, bF B1 B2 B3 B4 B5 B6 B7 j)) := by
  rcases j10 h with rfl | rfl | rfl | rfl | rfl | rfl | rfl | rfl | rfl | rfl <;> rfl
theorem bL_set1 {j : Nat} {v : Int32} (h : j < 10) : (bL bo B1 B2 B3 B4 B5 B6 B7 ++ wr).set j (bo j, .inr (0, (bF B1 B2 B3 B4 B5 B6 B7 j).set 0 (.int v))) = bL bo (upd B1 j v) B2 B3 B4 B5 B6 B7 ++ wr := by
  rcases j10 h with rfl | rfl | rfl | rfl | rfl | rfl | rfl | rfl | rfl | rfl <;> rfl
theorem bL_set2 {j : Nat} {v : Int32} (h : j < 10) : (bL bo B1 B2 B3 B4 B5 B6 B7 ++ wr).set j (bo j, .inr (0, (bF B1 B2 B3 B4 B5 B6 B7 j).set 1 (.int v))) = bL bo B1 (upd B2 j v) B3 B4 B5 B6 B7 ++ wr := by
  rcases j10 h with rfl | rfl | rfl | rfl | rfl | rfl | rfl | rfl | rfl | rfl <;> rfl
theorem bL_set3 {j : Nat} {v : Int32} (h : j < 10) : (bL bo B1 B2 B3 B4 B5 B6 B7 ++ wr).set j (bo j, .inr (0, (bF B1 B2 B3 B4 B5 B6 B7 j).set 2 (.int v))) = bL bo B1 B2 (upd B3 j v) B4 B5 B6 B7 ++ wr := by
  rcases j10 h with rfl | rfl | rfl | rfl | rfl | rfl | rfl | rfl | rfl | rfl <;> rfl
theorem bL_set4 {j : Nat} {v : Int32} (h : j < 10) : (bL bo B1 B2 B3 B4 B5 B6 B7 ++ wr).set j (bo j, .inr (0, (bF B1 B2 B3 B4 B5 B6 B7 j).set 3 (.int v))) = bL bo B1 B2 B3 (upd B4 j v) B5 B6 B7 ++ wr := by
  rcases j10 h with rfl | rfl | rfl | rfl | rfl | rfl | rfl | rfl | rfl | rfl <;> rfl
theorem bL_set5 {j : Nat} {v : Int32} (h : j < 10) : (bL bo B1 B2 B3 B4 B5 B6 B7 ++ wr).set j (bo j, .inr (0, (bF B1 B2 B3 B4 B5 B6 B7 j).set 4 (.int v))) = bL bo B1 B2 B3 B4 (upd B5 j v) B6 B7 ++ wr := by
  rcases j10 h with rfl | rfl | rfl | rfl | rfl | rfl | rfl | rfl | rfl | rfl <;> rfl
theorem bL_set6 {j : Nat} {v : Int32} (h : j < 10) : (bL bo B1 B2 B3 B4 B5 B6 B7 ++ wr).set j (bo j, .inr (0, (bF B1 B2 B3 B4 B5 B6 B7 j).set 5 (.int v))) = bL bo B1 B2 B3 B4 B5 (upd B6 j v) B7 ++ wr := by
  rcases j10 h with rfl | rfl | rfl | rfl | rfl | rfl | rfl | rfl | rfl | rfl <;> rfl
theorem bL_set7 {j : Nat} {v : Int32} (h : j < 10) : (bL bo B1 B2 B3 B4 B5 B6 B7 ++ wr).set j (bo j, .inr (0, (bF B1 B2 B3 B4 B5 B6 B7 j).set 6 (.int v))) = bL bo B1 B2 B3 B4 B5 B6 (upd B7 j v) ++ wr := by
  rcases j10 h with rfl | rfl | rfl | rfl | rfl | rfl | rfl | rfl | rfl | rfl <;> rfl
section
variable {p : Program} {l : Launch} {e : Env} {R : Room} {s : State} {m : MethodId} {args : Array Value} {below : List Frame} {meth : Method} {c : Code} {H : Heap} {locs : List Loc} {cells slots : Nat} {Q : State → Prop}
variable {cc : ByteArray} {pc : Nat} {ls : Array Slot} {rest : List Value} {D : va_G} {A : Nat → Prop} {tys : List (ClassId × FieldType)} {own : String}
theorem m_putB1 {index : Nat} {v : Int32} (hexec : p.tables.exec = Jvm.exec) (hb : c.code = cc) (hts : ∀ w ∈ gw, w.before args s = true) (hin : ∀ w ∈ u_ws RX0 TX0 7, w ∈ gw) (hown : s.vm.findClass own = some m.cls) (hK : va_K D vwCl tys s) (hP : va_P D vwCl (bL bo B1 B2 B3 B4 B5 B6 B7 ++ wr) H) (hD : va_D A (bL bo B1 B2 B3 B4 B5 B6 B7 ++ wr)) (hS : va_S A s.heap H locs) (j : Nat) (hj : j < 10) (hlink : (Cond.fieldLink own index "IceFair$Booth" "number" "I").before args s = true) (hn : narrow .int (.int v) = .int v) (hfit : fits .int (.int v) = true) (hdg : decode cc pc = .ok (.putfield index, 3))
    (kk : ∀ (g : Nat → Int32) (H1 : Heap) (locs1 : List Loc), g = upd B1 j v → va_P D vwCl (bL bo g B2 B3 B4 B5 B6 B7 ++ wr) H1 → va_D A (bL bo g B2 B3 B4 B5 B6 B7 ++ wr) → va_S A s.heap H1 locs1 → W p l e R s m args below meth c H1 locs1 cells slots Q (F0 m (pc + 3) ls rest)) : W p l e R s m args below meth c H locs cells slots Q (F0 m pc ls (.int v :: .ref (bo j) :: rest)) := by
  refine va_put (D := D) (ci := 0) (v := .int v) (ty := .int) (C := RX0) (T := TX0) (N := 7) hexec hb hts hin tyX0 tyX0_ok nmX0 hown hK hP hD hS j (bL_get hj) rfl 0 (by decide) hlink (fun _ h9 => h9) rfl (by decide +kernel) hn hfit (Nat.le_of_ble_eq_true rfl) hdg (fun H1 locs1 h1 h2 h3 => ?_)
  rw [bL_set1 hj] at h1 h2
  exact kk _ H1 locs1 rfl h1 h2 h3
theorem m_putB2 {index : Nat} {v : Int32} (hexec : p.tables.exec = Jvm.exec) (hb : c.code = cc) (hts : ∀ w ∈ gw, w.before args s = true) (hin : ∀ w ∈ u_ws RX0 TX0 7, w ∈ gw) (hown : s.vm.findClass own = some m.cls) (hK : va_K D vwCl tys s) (hP : va_P D vwCl (bL bo B1 B2 B3 B4 B5 B6 B7 ++ wr) H) (hD : va_D A (bL bo B1 B2 B3 B4 B5 B6 B7 ++ wr)) (hS : va_S A s.heap H locs) (j : Nat) (hj : j < 10) (hlink : (Cond.fieldLink own index "IceFair$Booth" "weight" "I").before args s = true) (hn : narrow .int (.int v) = .int v) (hfit : fits .int (.int v) = true) (hdg : decode cc pc = .ok (.putfield index, 3))
    (kk : ∀ (g : Nat → Int32) (H1 : Heap) (locs1 : List Loc), g = upd B2 j v → va_P D vwCl (bL bo B1 g B3 B4 B5 B6 B7 ++ wr) H1 → va_D A (bL bo B1 g B3 B4 B5 B6 B7 ++ wr) → va_S A s.heap H1 locs1 → W p l e R s m args below meth c H1 locs1 cells slots Q (F0 m (pc + 3) ls rest)) : W p l e R s m args below meth c H locs cells slots Q (F0 m pc ls (.int v :: .ref (bo j) :: rest)) := by
  refine va_put (D := D) (ci := 0) (v := .int v) (ty := .int) (C := RX0) (T := TX0) (N := 7) hexec hb hts hin tyX0 tyX0_ok nmX0 hown hK hP hD hS j (bL_get hj) rfl 1 (by decide) hlink (fun _ h9 => h9) rfl (by decide +kernel) hn hfit (Nat.le_of_ble_eq_true rfl) hdg (fun H1 locs1 h1 h2 h3 => ?_)
  rw [bL_set2 hj] at h1 h2
  exact kk _ H1 locs1 rfl h1 h2 h3
theorem m_putB3 {index : Nat} {v : Int32} (hexec : p.tables.exec = Jvm.exec) (hb : c.code = cc) (hts : ∀ w ∈ gw, w.before args s = true) (hin : ∀ w ∈ u_ws RX0 TX0 7, w ∈ gw) (hown : s.vm.findClass own = some m.cls) (hK : va_K D vwCl tys s) (hP : va_P D vwCl (bL bo B1 B2 B3 B4 B5 B6 B7 ++ wr) H) (hD : va_D A (bL bo B1 B2 B3 B4 B5 B6 B7 ++ wr)) (hS : va_S A s.heap H locs) (j : Nat) (hj : j < 10) (hlink : (Cond.fieldLink own index "IceFair$Booth" "fire" "Z").before args s = true) (hn : narrow .boolean (.int v) = .int v) (hfit : fits .boolean (.int v) = true) (hdg : decode cc pc = .ok (.putfield index, 3))
    (kk : ∀ (g : Nat → Int32) (H1 : Heap) (locs1 : List Loc), g = upd B3 j v → va_P D vwCl (bL bo B1 B2 g B4 B5 B6 B7 ++ wr) H1 → va_D A (bL bo B1 B2 g B4 B5 B6 B7 ++ wr) → va_S A s.heap H1 locs1 → W p l e R s m args below meth c H1 locs1 cells slots Q (F0 m (pc + 3) ls rest)) : W p l e R s m args below meth c H locs cells slots Q (F0 m pc ls (.int v :: .ref (bo j) :: rest)) := by
  refine va_put (D := D) (ci := 0) (v := .int v) (ty := .boolean) (C := RX0) (T := TX0) (N := 7) hexec hb hts hin tyX0 tyX0_ok nmX0 hown hK hP hD hS j (bL_get hj) rfl 2 (by decide) hlink (fun _ h9 => h9) rfl (by decide +kernel) hn hfit (Nat.le_of_ble_eq_true rfl) hdg (fun H1 locs1 h1 h2 h3 => ?_)
  rw [bL_set3 hj] at h1 h2
  exact kk _ H1 locs1 rfl h1 h2 h3
theorem m_putB4 {index : Nat} {v : Int32} (hexec : p.tables.exec = Jvm.exec) (hb : c.code = cc) (hts : ∀ w ∈ gw, w.before args s = true) (hin : ∀ w ∈ u_ws RX0 TX0 7, w ∈ gw) (hown : s.vm.findClass own = some m.cls) (hK : va_K D vwCl tys s) (hP : va_P D vwCl (bL bo B1 B2 B3 B4 B5 B6 B7 ++ wr) H) (hD : va_D A (bL bo B1 B2 B3 B4 B5 B6 B7 ++ wr)) (hS : va_S A s.heap H locs) (j : Nat) (hj : j < 10) (hlink : (Cond.fieldLink own index "IceFair$Booth" "crowd" "I").before args s = true) (hn : narrow .int (.int v) = .int v) (hfit : fits .int (.int v) = true) (hdg : decode cc pc = .ok (.putfield index, 3))
    (kk : ∀ (g : Nat → Int32) (H1 : Heap) (locs1 : List Loc), g = upd B4 j v → va_P D vwCl (bL bo B1 B2 B3 g B5 B6 B7 ++ wr) H1 → va_D A (bL bo B1 B2 B3 g B5 B6 B7 ++ wr) → va_S A s.heap H1 locs1 → W p l e R s m args below meth c H1 locs1 cells slots Q (F0 m (pc + 3) ls rest)) : W p l e R s m args below meth c H locs cells slots Q (F0 m pc ls (.int v :: .ref (bo j) :: rest)) := by
  refine va_put (D := D) (ci := 0) (v := .int v) (ty := .int) (C := RX0) (T := TX0) (N := 7) hexec hb hts hin tyX0 tyX0_ok nmX0 hown hK hP hD hS j (bL_get hj) rfl 3 (by decide) hlink (fun _ h9 => h9) rfl (by decide +kernel) hn hfit (Nat.le_of_ble_eq_true rfl) hdg (fun H1 locs1 h1 h2 h3 => ?_)
  rw [bL_set4 hj] at h1 h2
  exact kk _ H1 locs1 rfl h1 h2 h3
theorem m_putB5 {index : Nat} {v : Int32} (hexec : p.tables.exec = Jvm.exec) (hb : c.code = cc) (hts : ∀ w ∈ gw, w.before args s = true) (hin : ∀ w ∈ u_ws RX0 TX0 7, w ∈ gw) (hown : s.vm.findClass own = some m.cls) (hK : va_K D vwCl tys s) (hP : va_P D vwCl (bL bo B1 B2 B3 B4 B5 B6 B7 ++ wr) H) (hD : va_D A (bL bo B1 B2 B3 B4 B5 B6 B7 ++ wr)) (hS : va_S A s.heap H locs) (j : Nat) (hj : j < 10) (hlink : (Cond.fieldLink own index "IceFair$Booth" "state" "I").before args s = true) (hn : narrow .int (.int v) = .int v) (hfit : fits .int (.int v) = true) (hdg : decode cc pc = .ok (.putfield index, 3))
    (kk : ∀ (g : Nat → Int32) (H1 : Heap) (locs1 : List Loc), g = upd B5 j v → va_P D vwCl (bL bo B1 B2 B3 B4 g B6 B7 ++ wr) H1 → va_D A (bL bo B1 B2 B3 B4 g B6 B7 ++ wr) → va_S A s.heap H1 locs1 → W p l e R s m args below meth c H1 locs1 cells slots Q (F0 m (pc + 3) ls rest)) : W p l e R s m args below meth c H locs cells slots Q (F0 m pc ls (.int v :: .ref (bo j) :: rest)) := by
  refine va_put (D := D) (ci := 0) (v := .int v) (ty := .int) (C := RX0) (T := TX0) (N := 7) hexec hb hts hin tyX0 tyX0_ok nmX0 hown hK hP hD hS j (bL_get hj) rfl 4 (by decide) hlink (fun _ h9 => h9) rfl (by decide +kernel) hn hfit (Nat.le_of_ble_eq_true rfl) hdg (fun H1 locs1 h1 h2 h3 => ?_)
  rw [bL_set5 hj] at h1 h2
  exact kk _ H1 locs1 rfl h1 h2 h3
theorem m_putB6 {index : Nat} {v : Int32} (hexec : p.tables.exec = Jvm.exec) (hb : c.code = cc) (hts : ∀ w ∈ gw, w.before args s = true) (hin : ∀ w ∈ u_ws RX0 TX0 7, w ∈ gw) (hown : s.vm.findClass own = some m.cls) (hK : va_K D vwCl tys s) (hP : va_P D vwCl (bL bo B1 B2 B3 B4 B5 B6 B7 ++ wr) H) (hD : va_D A (bL bo B1 B2 B3 B4 B5 B6 B7 ++ wr)) (hS : va_S A s.heap H locs) (j : Nat) (hj : j < 10) (hlink : (Cond.fieldLink own index "IceFair$Booth" "x" "I").before args s = true) (hn : narrow .int (.int v) = .int v) (hfit : fits .int (.int v) = true) (hdg : decode cc pc = .ok (.putfield index, 3))
    (kk : ∀ (g : Nat → Int32) (H1 : Heap) (locs1 : List Loc), g = upd B6 j v → va_P D vwCl (bL bo B1 B2 B3 B4 B5 g B7 ++ wr) H1 → va_D A (bL bo B1 B2 B3 B4 B5 g B7 ++ wr) → va_S A s.heap H1 locs1 → W p l e R s m args below meth c H1 locs1 cells slots Q (F0 m (pc + 3) ls rest)) : W p l e R s m args below meth c H locs cells slots Q (F0 m pc ls (.int v :: .ref (bo j) :: rest)) := by
  refine va_put (D := D) (ci := 0) (v := .int v) (ty := .int) (C := RX0) (T := TX0) (N := 7) hexec hb hts hin tyX0 tyX0_ok nmX0 hown hK hP hD hS j (bL_get hj) rfl 5 (by decide) hlink (fun _ h9 => h9) rfl (by decide +kernel) hn hfit (Nat.le_of_ble_eq_true rfl) hdg (fun H1 locs1 h1 h2 h3 => ?_)
  rw [bL_set6 hj] at h1 h2
  exact kk _ H1 locs1 rfl h1 h2 h3
theorem m_putB7 {index : Nat} {v : Int32} (hexec : p.tables.exec = Jvm.exec) (hb : c.code = cc) (hts : ∀ w ∈ gw, w.before args s = true) (hin : ∀ w ∈ u_ws RX0 TX0 7, w ∈ gw) (hown : s.vm.findClass own = some m.cls) (hK : va_K D vwCl tys s) (hP : va_P D vwCl (bL bo B1 B2 B3 B4 B5 B6 B7 ++ wr) H) (hD : va_D A (bL bo B1 B2 B3 B4 B5 B6 B7 ++ wr)) (hS : va_S A s.heap H locs) (j : Nat) (hj : j < 10) (hlink : (Cond.fieldLink own index "IceFair$Booth" "y" "I").before args s = true) (hn : narrow .int (.int v) = .int v) (hfit : fits .int (.int v) = true) (hdg : decode cc pc = .ok (.putfield index, 3))
    (kk : ∀ (g : Nat → Int32) (H1 : Heap) (locs1 : List Loc), g = upd B7 j v → va_P D vwCl (bL bo B1 B2 B3 B4 B5 B6 g ++ wr) H1 → va_D A (bL bo B1 B2 B3 B4 B5 B6 g ++ wr) → va_S A s.heap H1 locs1 → W p l e R s m args below meth c H1 locs1 cells slots Q (F0 m (pc + 3) ls rest)) : W p l e R s m args below meth c H locs cells slots Q (F0 m pc ls (.int v :: .ref (bo j) :: rest)) := by
  refine va_put (D := D) (ci := 0) (v := .int v) (ty := .int) (C := RX0) (T := TX0) (N := 7) hexec hb hts hin tyX0 tyX0_ok nmX0 hown hK hP hD hS j (bL_get hj) rfl 6 (by decide) hlink (fun _ h9 => h9) rfl (by decide +kernel) hn hfit (Nat.le_of_ble_eq_true rfl) hdg (fun H1 locs1 h1 h2 h3 => ?_)
  rw [bL_set7 hj] at h1 h2
  exact kk _ H1 locs1 rfl h1 h2 h3
theorem m_aald {ws : va_W} {a : Nat} {cl : List vw_C} (hexec : p.tables.exec = Jvm.exec) (hb : c.code = cc) (hK : va_K D cl tys s) (hP : va_P D cl ws H) (q0 t0 : Nat) {cA : ClassId} {C : String} {n : Nat} {f : Nat → Option Nat} (ha : ws[q0]? = some (a, .inl (cA, n, .inr (.inr (.inr (.inr f)))))) (ht : tys[t0]? = some (cA, .object C)) {i : Int32} (j : Nat) (hi : i = nI j) (hj : j < n) (hn : n < 2 ^ 31) (hdg : decode cc pc = .ok (.aaload, 1))
    (kk : W p l e R s m args below meth c H locs cells slots Q (F0 m (pc + 1) ls (va_rf (f j) :: rest))) : W p l e R s m args below meth c H locs cells slots Q (F0 m pc ls (.int i :: .ref a :: rest)) := by
  subst hi
  refine va_aldq hexec hb hK hP q0 t0 ha ht (vp_in_nI hj hn) hdg ?_
  rw [nI_clamp (Nat.lt_trans hj hn)]
  exact kk
end
theorem va_P_arrq {D : va_G} {cl : List vw_C} {ws : va_W} {H : Heap} (hP : va_P D cl ws H) (k : Nat) {a : Nat} {cA : ClassId} {n : Nat} {f : Nat → Option Nat} (g : Nat → Option Nat) (hk : ws[k]? = some (a, .inl (cA, n, .inr (.inr (.inr (.inr f)))))) (h : ∀ j, j < n → f j = g j) : va_P D cl (ws.set k (a, .inl (cA, n, .inr (.inr (.inr (.inr g)))))) H := by
  have hc : vp_cell cA (n, .inr (.inr (.inr (.inr f)))) = vp_cell cA (n, .inr (.inr (.inr (.inr g)))) := by
    show arrV cA n (fun j => va_rf (f j)) = arrV cA n (fun j => va_rf (g j))
    unfold arrV
    congr 1
    apply Array.ext (by simp)
    intro i h1 h2
    simp only [Array.getElem_ofFn]
    rw [h i (by simpa using h1)]
  intro i q hq
  by_cases hi : k = i
  · subst hi
    have hlt : k < ws.length := (List.getElem?_eq_some_iff.mp hk).1
    rw [List.getElem?_set_self hlt] at hq
    cases hq
    have h0 := hP k _ hk
    show H[a]? = some (vp_cell cA (n, .inr (.inr (.inr (.inr g)))))
    rw [← hc]
    exact h0
  · rw [List.getElem?_set_ne hi] at hq
    exact hP i q hq
/-- a loop's number grows towards its bound -/
theorem inc_lt {d f : Int32} (h : d < f) : (f.toInt - (d + 1).toInt).toNat < (f.toInt - d.toInt).toNat := by
  have h1 := Int32.lt_iff_toInt_lt.mp h
  have h2 := Int32.toInt_lt f
  have h3 := Int32.le_toInt d
  have e : (d + 1).toInt = d.toInt + 1 := by
    rw [Int32.toInt_add]
    have h1' : (1 : Int32).toInt = 1 := rfl
    rw [h1']
    exact Int.bmod_eq_of_le (by omega) (by omega)
  rw [e]; omega
end BLK
