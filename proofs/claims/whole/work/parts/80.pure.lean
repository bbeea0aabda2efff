theorem zAll : ∃ R : zSt → zSt → Prop, yAg R ∧ R S0X S0M := sorry
