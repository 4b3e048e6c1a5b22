/-! ===== BEGIN printed: names, fields, word lists, decode rows ===== -/
def RX0 : String := "IceFair$Booth"
def yX0_init : MethodName := ⟨RX0, "<init>", "()V"⟩
def RX2 : String := "IceFair$CustomsReader"
def RX3 : String := "IceFair$Fair"
def RX5 : String := "IceFair$LineKind"
def RX9 : String := "IceFair"