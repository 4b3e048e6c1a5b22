section XS
/-- what the static row of the usual numbers holds -/
def uF : Nat → Int32 := fun j => match j with
  | 0 => 100 | 1 => 1 | 2 => 0 | 3 => 0 | 4 => 1 | 5 => 99 | 6 => 1 | _ => 0
/-- the static row of the usual numbers lies at us, out of the way of the cells that may change -/
def xU (us : Nat) : (Nat → Prop) → State → Prop := fun A U => va_Z "IceFair$Customs" "USUAL" "[I" (.ref us) A U U.heap ∧ va_X us 8 uF U U.heap ∧ us < U.heap.size ∧ ¬ A us
/-- what Fair() asks beside: the nest mate's constructor, the class of its row of booths -/
def xF (us : Nat) : (Nat → Prop) → State → Prop := fun A U => xU us A U ∧ va_Nw (.methodLinkNest RX3 31 yX0_init "IceFair") U ∧ va_AO RX0 U
variable {p : Program} {l : Launch} {e : Env} {R : Room} {s : State} {m : MethodId} {args : Array Value} {below : List Frame} {meth : Method} {c : Code} {H : Heap} {locs : List Loc} {cells slots : Nat} {Q : State → Prop}
variable {cc : ByteArray} {nL pc : Nat} {ls : Array Slot} {rest st : List Value} {D : va_G} {A : Nat → Prop} {tys : List (ClassId × FieldType)} {ws : va_W} {own : String}
end XS
