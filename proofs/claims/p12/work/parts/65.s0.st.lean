section ST0
section
variable {f g g' : Nat → Int32} {i j w h t u : Nat} {wt : Int32}
end
section
variable {f1 f2 f3 f5 g6 g : Nat → Int32} {b v : Int32} {w h i j : Nat}
end
end ST0
section ST1
section
variable {bc w h b c : Nat} {B1 B2 B3 B5 B6 B7 G5 G6 G7 f1 f3 f4 f5 g3 g4 : Nat → Int32} {wt wh : Nat → Nat} {s : Int32}
end
end ST1
