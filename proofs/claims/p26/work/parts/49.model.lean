def py3 (p q r : Prop) (c : Int) : Prop := (¬ p ∧ c = 1) ∨ (p ∧ ¬ q ∧ c = 2) ∨ (p ∧ q ∧ ¬ r ∧ c = 3)

