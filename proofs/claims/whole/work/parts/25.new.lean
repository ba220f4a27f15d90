/-! ===== new objects ===== -/
/-- n cells more from b on, nothing else changed -/
def NewS (h h' : xM) (b n : Nat) : Prop := mN h' = b + n ∧ ∀ a, (a < b ∨ b + n ≤ a) → mT h' a = mT h a ∧ mI h' a = mI h a ∧ mR h' a = mR h a ∧ mL h' a = mL h a
/-- a chamber in which nothing was said -/
def aNew : aS := (0, 0, fun _ => 0, fun j => if j = 2 then 8 else 1, fun _ => 0, fun _ => 0, fun _ => 0, fun _ => 0, fun _ _ => 0, fun _ _ => 0)
theorem aNew_ok : aOK aNew := by
  refine ⟨⟨by decide, by decide⟩, ⟨by decide, by decide⟩, fun j _ _ => ⟨by show (0 : Int) ≤ 0; omega, by show (0 : Int) ≤ 3; omega⟩, ⟨⟨by decide, by decide⟩, ⟨by decide, by decide⟩, ⟨by decide, by decide⟩⟩, fun n h1 h2 => ?_, fun n n' h1 h2 h3 => ?_, fun s n h1 h2 h3 h4 => ?_, fun s k h1 h2 h3 h4 => ?_⟩
  · have h2 : n < 0 := h2
    omega
  · have h3 : n' < 0 := h3
    omega
  · have h4 : n < 0 := h4
    omega
  · have h4 : k < 0 := h4
    omega
