section ST7
section
variable {P : Nat → Bool} {n : Nat}
end
section
variable {P : Nat → Bool} {w h i j ok r4 : Nat} {f5 m2 m3 m4 k2 k3 k4 : Nat → Int32} {v : Int32}
end
section
variable {C M : Nat → Bool} {c lk : Nat}
end
section
variable {w h bc : Nat} {lo ck fi : Nat → Int32} {b0 : Int32} {wt ru wa : Nat → Nat} {mn n k lk : Nat} {tc : Nat → Nat} {st : Nat → Int32} {wh : Nat → Nat} {c lk' : Nat}
end
section
variable {w h bc c : Nat} {B1 B2 B5 B6 B7 f1 f3 f4 f5 : Nat → Int32} {wt wh : Nat → Nat} {PO : Nat → Bool}
end
section
variable {wa : Nat → Nat} {mn k : Nat} {st0 st : Nat → Int32}
end
end ST7
