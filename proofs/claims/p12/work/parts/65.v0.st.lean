section ST4
/-- how many are sunk -/
def c2 (st : Nat → Int32) : Nat → Nat
  | 0 => 0
  | n + 1 => c2 st n + (if st n = 2 then 1 else 0)
section
variable {w h i j bc c0 b : Nat} {f5 f6 g5 g' B5 G5 G' : Nat → Int32} {wh : Nat → Nat}
end
section
variable {w h i j bc : Nat} {f5 f6 g5 B1 B5 B6 B7 G5 : Nat → Int32} {wh : Nat → Nat}
end
end ST4
section ST5
section
variable {w h bc : Nat} {lo hi : Nat → Int32} {b0 : Int32} {wt wh : Nat → Nat} {x : (Nat → Int32) × (Nat → Int32)}
end
section
variable {w h i j : Nat} {co : Int32} {F f g : Nat → Int32}
end
end ST5
