/-! ===== what a method of a chamber leaves alone ===== -/
def Fr (h h' : xM) (b : Nat) : Prop := mN h' = mN h ∧ mT h' = mT h ∧ mR h' = mR h ∧ mL h' = mL h ∧ ∀ a, (a < b ∨ b + 29 ≤ a) → mI h' a = mI h a
theorem Fr.rf {h : xM} {b : Nat} : Fr h h b := ⟨rfl, rfl, rfl, rfl, fun _ _ => rfl⟩
theorem Fr.w {h g : xM} {b a : Nat} {k x : Int} (H : Fr h g b) (ha : b ≤ a ∧ a < b + 29) : Fr h (sI g a k x) b := ⟨H.1, H.2.1, H.2.2.1, H.2.2.2.1, fun c hc => by
  rw [← H.2.2.2.2 c hc]
  funext j
  rw [mI_sI, if_neg (by omega)]⟩
theorem Fr.tr {h g k : xM} {b : Nat} (H : Fr h g b) (H' : Fr g k b) : Fr h k b := ⟨H'.1.trans H.1, H'.2.1.trans H.2.1, H'.2.2.1.trans H.2.2.1, H'.2.2.2.1.trans H.2.2.2.1, fun c hc => (H'.2.2.2.2 c hc).trans (H.2.2.2.2 c hc)⟩
theorem ChS.eq {h g : xM} {b : Nat} (H : ChS h b) (hT : mT g = mT h) (hR : mR g = mR h) : ChS g b := H.of (fun a _ _ => by rw [hT]) (fun a _ _ => by rw [hR])
theorem R0_keep {h g : xM} {b : Nat} {A : aS} (H : R0 h b A) (hT : mT g = mT h) (hR : mR g = mR h) (hI : ∀ a, b ≤ a → a < b + 14 → mI g a = mI h a) : R0 g b A := by
  obtain ⟨a0, a1, a2, a3, a4, a5, a6, a7, a8, a9, a10⟩ := H
  refine ⟨a0.eq hT hR, a1, ?_, ?_, ?_, ?_, ?_, ?_, ?_, ?_, fun s n h1 h2 => ?_⟩
  · rw [hI b (by omega) (by omega)]; exact a2
  · rw [hI b (by omega) (by omega)]; exact a3
  · rw [hI (b + 1) (by omega) (by omega)]; exact a4
  · rw [hI (b + 2) (by omega) (by omega)]; exact a5
  · rw [hI (b + 3) (by omega) (by omega)]; exact a6
  · rw [hI (b + 4) (by omega) (by omega)]; exact a7
  · rw [hI (b + 5) (by omega) (by omega)]; exact a8
  · rw [hI (b + 6) (by omega) (by omega)]; exact a9
  · rw [hI (b + 8 + s.toNat) (by omega) (by omega)]; exact a10 s n h1 h2
theorem RC_keep {h g : xM} {b : Nat} {A : aS} (H : RC h b A) (hT : mT g = mT h) (hR : mR g = mR h) (hI : ∀ a, b ≤ a → a < b + 29 → mI g a = mI h a) : RC g b A := by
  obtain ⟨a0, a1, a2, a3⟩ := H
  refine ⟨R0_keep a0 hT hR (fun a h1 h2 => hI a h1 (by omega)), fun s n h1 h2 => ?_, fun s n h1 h2 => ?_, ?_⟩
  · rw [hI (b + 15 + s.toNat) (by omega) (by omega)]; exact a1 s n h1 h2
  · rw [hI (b + 22 + s.toNat) (by omega) (by omega)]; exact a2 s n h1 h2
  · rw [hI (b + 28) (by omega) (by omega)]; exact a3
