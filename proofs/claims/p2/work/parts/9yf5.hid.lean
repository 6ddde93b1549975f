/-! the texts of operators -/
/-- kept in mind, out of sight -/
def Kpt (p : Prop) : Prop := p
