/-! ===== the model's changes of its first row ===== -/
/-- only the first row is another -/
def FS (h g : xM) (m : Nat) : Prop := FM h g m ∧ (∀ q, q ≠ m + 1 → mI g q = mI h q) ∧ (∀ j, 4411 ≤ j → mI g (m + 1) j = mI h (m + 1) j)
theorem FS.rf {h : xM} {m : Nat} : FS h h m := ⟨FM.rf, fun _ _ => rfl, fun _ _ => rfl⟩
theorem FS.tr {h g k : xM} {m : Nat} (H : FS h g m) (H' : FS g k m) : FS h k m := ⟨H.1.tr H'.1, fun q z => (H'.2.1 q z).trans (H.2.1 q z), fun j z => (H'.2.2 j z).trans (H.2.2 j z)⟩
theorem FS.w {h g : xM} {m : Nat} {k x : Int} (H : FS h g m) (hk : k < 4411) : FS h (sI g (m + 1) k x) m := ⟨H.1.w ⟨by omega, by omega⟩, fun q z => by rw [← H.2.1 q z]; funext j; rw [mI_sI, if_neg (fun y => z y.1)], fun j z => by rw [← H.2.2 j z, mI_sI, if_neg (by omega)]⟩
/-- a part of what is heard in the beat of now -/
theorem RM_pre {g h : xM} {a : Nat} {A : aS} (H : RM h a 0 A) (hA : aOK A) (hB : aB A < 400) (ho : ∀ j, 0 ≤ j → j < 4411 → (∀ q, 0 ≤ q → q < 6 → j ≠ 2011 + 400 * q + aB A) → mI g a j = mI h a j) : RM g a 0 A := by
  have hW := hA.2.1
  have hB0 := hA.1
  obtain ⟨a1, a2, a3, a4, a5, a6, a7⟩ := H
  have st : ∀ i v, mI h a i = v → 0 ≤ i → i < 2011 → mI g a i = v := fun i v e z1 z2 => by rw [ho i z1 (by omega) (fun q y1 y2 => by omega)]; exact e
  refine ⟨fun j h1 h2 => st _ _ (a1 j h1 h2) (by omega) (by omega), st _ _ a2 (by omega) (by omega), st _ _ a3 (by omega) (by omega), fun j h1 h2 => st _ _ (a4 j h1 h2) (by omega) (by omega), fun n h1 h2 => ?_, fun s n h1 h2 h3 h4 => st _ _ (a6 s n h1 h2 h3 h4) (by omega) (by omega), fun s k h1 h2 h3 h4 => ?_⟩
  · obtain ⟨b1, b2, b3, b4⟩ := a5 n h1 h2
    exact ⟨st _ _ b1 (by omega) (by omega), st _ _ b2 (by omega) (by omega), st _ _ b3 (by omega) (by omega), st _ _ b4 (by omega) (by omega)⟩
  · rw [ho (0 + 2011 + 400 * s + k) (by omega) (by omega) (fun q y1 y2 => by omega)]
    exact a7 s k h1 h2 h3 h4
/-- a part of a word -/
theorem RM_pre2 {g h : xM} {a : Nat} {A : aS} (H : RM h a 0 A) (hA : aOK A) (ho : ∀ j, 0 ≤ j → j < 4411 → (j < 11 + 10 * aW A ∨ 21 + 10 * aW A ≤ j) → mI g a j = mI h a j) (hW2 : aW A < 200) : RM g a 0 A := by
  have hW := hA.2.1
  have hB0 := hA.1
  obtain ⟨a1, a2, a3, a4, a5, a6, a7⟩ := H
  have st : ∀ i v, mI h a i = v → 0 ≤ i → i < 4411 → (i < 11 + 10 * aW A ∨ 21 + 10 * aW A ≤ i) → mI g a i = v := fun i v e z1 z2 z4 => by rw [ho i z1 z2 z4]; exact e
  refine ⟨fun j h1 h2 => st _ _ (a1 j h1 h2) (by omega) (by omega) (by omega), st _ _ a2 (by omega) (by omega) (by omega), st _ _ a3 (by omega) (by omega) (by omega), fun j h1 h2 => st _ _ (a4 j h1 h2) (by omega) (by omega) (by omega), fun n h1 h2 => ?_, fun s n h1 h2 h3 h4 => st _ _ (a6 s n h1 h2 h3 h4) (by omega) (by omega) (by omega), fun s k h1 h2 h3 h4 => st _ _ (a7 s k h1 h2 h3 h4) (by omega) (by omega) (by omega)⟩
  obtain ⟨b1, b2, b3, b4⟩ := a5 n h1 h2
  exact ⟨st _ _ b1 (by omega) (by omega) (by omega), st _ _ b2 (by omega) (by omega) (by omega), st _ _ b3 (by omega) (by omega) (by omega), st _ _ b4 (by omega) (by omega) (by omega)⟩
