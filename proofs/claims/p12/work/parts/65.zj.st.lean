section ST23
section
variable {cw mn fs fs' : Nat → Nat} {dd : Nat → Nat → Nat} {g g' s t t' b : Nat}
end
section
variable {bc sn c g t : Nat} {st cp : Nat → Prop} {cw mn : Nat → Nat} {dd : Nat → Nat → Nat}
end
end ST23
section ST24
section
variable {K bc sn c g t i q mi : Nat} {st cp p : Nat → Prop} {cw mn fs : Nat → Nat} {dd : Nat → Nat → Nat}
end
end ST24
