section RDH
def enN : List String := ["BEAR", "MELT", "APART", "NEAR", "HEAL", "FEE", "STAIR"]
def enSl : List Int32 := [0, 1, 3, 4, 5, 6, 8]
def enNu : List Int32 := [1, 2, 1, 1, 1, 2, 3]
def enLe : List Int32 := [1, 0, 0, 0, 1, 0, 0]
def enMo : List Int32 := [999, 9, 9, 4, 99, 99, 9]
def enF : List (String × String × String × List Int32) := [(RX5, "slot", "I", enSl), (RX5, "numbers", "I", enNu), (RX5, "least", "I", enLe), (RX5, "most", "I", enMo)]
def stL : List Nat := [4, 4, 5, 4, 4, 3, 5]
def stB : List (List Int32) := [[98, 101, 97, 114], [109, 101, 108, 116], [97, 112, 97, 114, 116], [110, 101, 97, 114], [104, 101, 97, 108], [102, 101, 101], [115, 116, 97, 105, 114]]
/-- the words of the kinds, as String constants -/
def xS (kk : Nat → Nat) : (Nat → Prop) → State → Prop := fun A U => ∃ kv : Nat → Nat, vk_S 7 stL stB kk kv A U U.heap ∧ va_Z "java/lang/String" "COMPACT_STRINGS" "Z" (.int 1) A U U.heap ∧ va_Zq "jdk/internal/util/Preconditions" "SIOOBE_FORMATTER" "Ljava/util/function/BiFunction;" A U U.heap
/-- the constants of the kinds of lines -/
def xN (en : Nat → Nat) : (Nat → Prop) → State → Prop := fun A U => va_En RX5 "LIceFair$LineKind;" enN enF en A U U.heap
def xR (en kk : Nat → Nat) : (Nat → Prop) → State → Prop := fun A U => xS kk A U ∧ xN en A U ∧ va_Ef 7 RX5 "word" "Ljava/lang/String;" (fun i => .ref (kk i)) en A U U.heap ∧ (∃ al : Nat, va_Z RX5 "ALL" "[LIceFair$LineKind;" (.ref al) A U U.heap ∧ va_T (.object RX5) al 7 (fun j => .ref (en j)) A U U.heap) ∧ va_Nw (.fieldLinkNest RX2 90 RX5 "ALL" "[LIceFair$LineKind;" "IceFair") U
variable {p : Program} {l : Launch} {e : Env} {R : Room} {s : State} {m : MethodId} {args : Array Value} {below : List Frame} {meth : Method} {c : Code} {H : Heap} {locs : List Loc} {cells slots : Nat} {Q : State → Prop}
variable {cc : ByteArray} {nL pc : Nat} {ls : Array Slot} {rest st : List Value} {D : va_G} {A : Nat → Prop} {tys : List (ClassId × FieldType)} {ws : va_W} {own : String}
end RDH