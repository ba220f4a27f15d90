/-! ===== the model: walls, settings, text, undo, snapshot ===== -/
theorem aSWl_ok {A : aS} {s k : Int} (H : aOK A) (hk : 0 ≤ k ∧ k ≤ 3) : aOK (aSWl A s k) := ⟨H.1, H.2.1, fun j h1 h2 => by
  show 0 ≤ (if j = s then k else aWl A j) ∧ (if j = s then k else aWl A j) ≤ 3
  have := H.2.2.1 j h1 h2
  split <;> omega, H.2.2.2⟩
theorem aSSt_ok {A : aS} {s k : Int} (H : aOK A) (hk : stOK s k) : aOK (aSSt A s k) := ⟨H.1, H.2.1, H.2.2.1, by
  show (0 ≤ (if (0 : Int) = s then k else aSt A 0) ∧ (if (0 : Int) = s then k else aSt A 0) ≤ 5) ∧ (0 ≤ (if (1 : Int) = s then k else aSt A 1) ∧ (if (1 : Int) = s then k else aSt A 1) ≤ 4) ∧ (1 ≤ (if (2 : Int) = s then k else aSt A 2) ∧ (if (2 : Int) = s then k else aSt A 2) ≤ 50)
  have := H.2.2.2.1
  unfold stOK at hk
  omega, H.2.2.2.2⟩
