/-- a fact that the arithmetic need not look at -/
def Hid (p : Prop) : Prop := p
