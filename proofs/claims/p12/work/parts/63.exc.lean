section EXC
abbrev nIO : String := "java/lang/IndexOutOfBoundsException"
abbrev nNS : String := "java/util/NoSuchElementException"
abbrev nRT : String := "java/lang/RuntimeException"
abbrev nEX : String := "java/lang/Exception"
/-- what a method asks of the state that may throw -/
def xE (s1 s2 s3 s4 : Nat) : (Nat → Prop) → State → Prop := fun A U =>
  vx_Zq Bundle.tN "UNASSIGNED_STACK" Bundle.steD A U U.heap ∧ vx_Zq Bundle.tN "SUPPRESSED_SENTINEL" Bundle.listD A U U.heap ∧
  (vk_R RX9 144 "no such cell" s1 U ∧ vk_R RX9 178 "no such what of a cell" s2 U ∧ vk_R RX9 181 "no such booth" s3 U ∧ vk_R RX9 197 "no such what of a booth" s4 U) ∧
  (va_Nw (.declares (Bundle.initS nRT)) U ∧ va_Nw (.declares (Bundle.initS nEX)) U ∧ va_Nw (.declares (Bundle.initS Bundle.tN)) U) ∧ va_Nw (.castable nIO nIO) U ∧ va_Nw (.castable nNS nNS) U ∧ va_Nc nNS nIO U
variable {p : Program} {l : Launch} {e : Env} {R : Room} {s : State} {m : MethodId} {args : Array Value} {below : List Frame} {meth : Method} {c : Code} {H : Heap} {locs : List Loc} {cells slots : Nat} {Q : State → Prop}
variable {cc : ByteArray} {nL pc : Nat} {ls : Array Slot} {rest st : List Value} {D : va_G} {A : Nat → Prop} {tys : List (ClassId × FieldType)} {ws : va_W} {own : String}
end EXC
section EXC2
variable {p : Program} {l : Launch} {e : Env} {R : Room} {s : State} {m : MethodId} {args : Array Value} {below : List Frame} {meth : Method} {c : Code} {H : Heap} {locs : List Loc} {cells slots : Nat} {Q : State → Prop}
variable {cc : ByteArray} {nL pc : Nat} {ls : Array Slot} {rest st : List Value} {D : va_G} {A : Nat → Prop} {tys : List (ClassId × FieldType)} {ws : va_W} {own : String}
end EXC2
