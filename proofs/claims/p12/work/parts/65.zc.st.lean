section ST20
section
variable {F : Nat → Prop} {g g' : Nat → Int32} {i j k q p D s t c d n : Nat} {sp : Nat → Nat} {v : Int32}
end
end ST20
