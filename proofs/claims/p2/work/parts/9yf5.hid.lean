/-! the texts of operators -/
/-- kept in mind, out of sight -/
def Hd (p : Prop) : Prop := p
