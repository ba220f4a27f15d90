/-! ===== new objects ===== -/
/-- n cells more from b on, nothing else changed -/
def NewS (h h' : xM) (b n : Nat) : Prop := mN h' = b + n ∧ ∀ a, (a < b ∨ b + n ≤ a) → mT h' a = mT h a ∧ mI h' a = mI h a ∧ mR h' a = mR h a ∧ mL h' a = mL h a
/-- a chamber in which nothing was said -/
def aNew : aS := (0, 0, fun _ => 0, fun j => if j = 2 then 8 else 1, fun _ => 0, fun _ => 0, fun _ => 0, fun _ => 0, fun _ _ => 0, fun _ _ => 0)
theorem aNew_ok : aOK aNew := by
  refine ⟨⟨by decide, by decide⟩, ⟨by decide, by decide⟩, fun j _ _ => ⟨by show (0 : Int) ≤ 0; omega, by show (0 : Int) ≤ 3; omega⟩, ⟨⟨by decide, by decide⟩, ⟨by decide, by decide⟩, ⟨by decide, by decide⟩⟩, fun n h1 h2 => ?_, fun n n' h1 h2 h3 => ?_, fun s n h1 h2 h3 h4 => ?_, fun s k h1 h2 h3 h4 => ?_⟩
  · have h2 : n < 0 := h2
    omega
  · have h3 : n' < 0 := h3
    omega
  · have h4 : n < 0 := h4
    omega
  · have h4 : k < 0 := h4
    omega
theorem NewS.rf {h : xM} {b n : Nat} (hN : mN h = b + n) : NewS h h b n := ⟨hN, fun _ _ => ⟨rfl, rfl, rfl, rfl⟩⟩
theorem NewS.al {h g : xM} {b n t m : Nat} (H : NewS h g b n) : NewS h (aL g t m) b (n + 1) := ⟨by rw [mN_aL, H.1]; rfl, fun a ha => by
  have e : ¬ a = mN g := by rw [H.1]; omega
  obtain ⟨h1, h2, h3, h4⟩ := H.2 a (by omega)
  refine ⟨?_, ?_, ?_, ?_⟩
  · rw [mT_aL, if_neg e]; exact h1
  · rw [← h2]; funext j; rw [mI_aL, if_neg e]
  · rw [← h3]; funext j; rw [mR_aL, if_neg e]
  · rw [← h4]; funext j; rw [mL_aL, if_neg e]⟩
theorem NewS.am {h g : xM} {b n k m : Nat} (H : NewS h g b n) : NewS h (aM g k m) b (n + 1 + k) := ⟨by rw [mN_aM, H.1]; omega, fun a ha => by
  have e : ¬ a = mN g := by rw [H.1]; omega
  have e2 : ¬ (mN g < a ∧ a < mN g + 1 + k) := by rw [H.1]; omega
  have e3 : ¬ (mN g ≤ a ∧ a < mN g + 1 + k) := by rw [H.1]; omega
  obtain ⟨h1, h2, h3, h4⟩ := H.2 a (by omega)
  refine ⟨?_, ?_, ?_, ?_⟩
  · rw [mT_aM, if_neg e, if_neg e2]; exact h1
  · rw [← h2]; funext j; rw [mI_aM, if_neg e3]
  · rw [← h3]; funext j; rw [mR_aM, if_neg e, if_neg e2]
  · rw [← h4]; funext j; rw [mL_aM, if_neg e3]⟩
theorem NewS.wI {h g : xM} {b n c : Nat} {k x : Int} (H : NewS h g b n) (hc : b ≤ c ∧ c < b + n) : NewS h (sI g c k x) b n := ⟨H.1, fun a ha => by
  obtain ⟨h1, h2, h3, h4⟩ := H.2 a ha
  refine ⟨h1, ?_, h3, h4⟩
  rw [← h2]; funext j; rw [mI_sI, if_neg (by omega)]⟩
theorem NewS.wR {h g : xM} {b n c : Nat} {k : Int} {x : Option Nat} (H : NewS h g b n) (hc : b ≤ c ∧ c < b + n) : NewS h (sR g c k x) b n := ⟨H.1, fun a ha => by
  obtain ⟨h1, h2, h3, h4⟩ := H.2 a ha
  refine ⟨h1, h2, ?_, h4⟩
  rw [← h3]; funext j; rw [mR_sR, if_neg (by omega)]⟩
theorem NewS.wL {h g : xM} {b n c : Nat} {k : Int} {x : Int64} (H : NewS h g b n) (hc : b ≤ c ∧ c < b + n) : NewS h (sL g c k x) b n := ⟨H.1, fun a ha => by
  obtain ⟨h1, h2, h3, h4⟩ := H.2 a ha
  refine ⟨h1, h2, h3, ?_⟩
  rw [← h4]; funext j; rw [mL_sL, if_neg (by omega)]⟩
