/-- a fact that the arithmetic need not look at -/
def Hid (p : Prop) : Prop := p
theorem adv_rg {K A B : Prop} {f : Int} (h : (K → f = 1 ∧ A) ∧ (¬ K → f = 0 ∧ B)) : 0 ≤ f ∧ f ≤ 7 := by
  rcases Classical.em K with z | z
  · have := (h.1 z).1; omega
  · have := (h.2 z).1; omega
