section PARSE
def adv (p : Nat → Bool) : Nat → Nat → Nat
  | 0, i => i
  | k + 1, i => if p i then adv p k (i + 1) else i
/-- the first place from i on, below n, where p doesn't hold; else n -/
def run (p : Nat → Bool) (n i : Nat) : Nat := adv p (n - i) i
def cLt (f : Nat → Int32) (j : Nat) : Bool := !decide (f j < 97 ∨ 122 < f j)
def cDg (f : Nat → Int32) (j : Nat) : Bool := !decide (f j < 48 ∨ 57 < f j)
def tN (f : Nat → Int32) (n s : Nat) : Nat := if n ≤ s then s else if cLt f s then run (cLt f) n s else if cDg f s then run (cDg f) n s else s + 1
end PARSE
section PARSE2
section
variable {f : Nat → Int32} {n w k j i fp s t x e : Nat} {dup : Nat → Nat → Bool} {v : Nat → Nat}
end
end PARSE2
section PARSE3
/-- what lines have told: kinds told, stairs, their places and men, the numbers -/
abbrev PSt := (Nat → Bool) × Nat × (Nat → Nat) × (Nat → Nat) × (Nat → Nat) × (Nat → Nat)
section
variable {f : Nat → Int32} {n s e w : Nat} {P : PSt}
end
end PARSE3
section PARSE4
section
variable {f : Nat → Int32} {n i nx s : Nat} {kd wh pl : Int32}
end
end PARSE4
section PARSE5
end PARSE5
