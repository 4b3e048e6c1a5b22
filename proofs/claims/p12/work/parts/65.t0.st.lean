section ST2
section
variable {a c : Nat}
end
end ST2
