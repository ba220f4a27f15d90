/-! ===== the model's line ===== -/
def lO (L : lS) : Prop := lP L ∧ (aOK (lA L) ∧ (∀ i, 0 ≤ i → i < lZ L → aOK (lSv L i)) ∧ (lKf L = 1 → aOK (lK L))) ∧ (0 ≤ lZ L ∧ lZ L ≤ 6) ∧ (lKf L = 0 ∨ lKf L = 1) ∧ (0 ≤ lTn L ∧ lTn L ≤ 60) ∧ ∀ j, 0 ≤ j → j < lTn L → 33 ≤ lTg L j ∧ lTg L j ≤ 126
def py3 (p q r : Prop) (c : Int) : Prop := (¬ p ∧ c = 1) ∨ (p ∧ ¬ q ∧ c = 2) ∨ (p ∧ q ∧ ¬ r ∧ c = 3)

