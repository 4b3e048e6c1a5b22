section ST8
section
variable {wa : Nat → Nat} {mn t kk : Nat} {st0 B5 G5 G' : Nat → Int32}
end
section
variable {PO : Nat → Bool} {t c : Nat} {tc : Nat → Nat} {l5 m5 m6 : Nat → Int32}
end
section
variable {bc w h b c : Nat} {B1 B2 B5 B6 B7 G5 G6 G7 f1 f3 f4 f5 g3 g4 : Nat → Int32} {wt wh wh' : Nat → Nat} {PO : Nat → Bool}
end
section
variable {wa tc : Nat → Nat} {my k c : Nat} {gt gt1 gt2 : Nat → Int32}
end
section
variable {bc b c my i : Nat} {st st0 gs g gw gw2 gs2 : Nat → Int32} {wa wh wh0 : Nat → Nat}
end
end ST8
