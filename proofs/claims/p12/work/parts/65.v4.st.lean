section ST6
section
variable {w h bc c : Nat} {lo hi : Nat → Int32} {b0 : Int32} {wt wh : Nat → Nat} {x : (Nat → Int32) × (Nat → Int32)}
end
section
variable {bc i q0 : Nat} {b gs gs0 gs' : Nat → Int32} {wh : Nat → Nat}
end
end ST6
