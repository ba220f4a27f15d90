/-! ===== what the objects are, by their kinds and references ===== -/
def ChS (h : xM) (b : Nat) : Prop := mT h b = some (0, 12) ∧ (mR h b 2 = some (b + 1) ∧ mT h (b + 1) = some (10, 6)) ∧ (mR h b 3 = some (b + 2) ∧ mT h (b + 2) = some (10, 3)) ∧ (mR h b 4 = some (b + 3) ∧ mT h (b + 3) = some (10, 200)) ∧ (mR h b 5 = some (b + 4) ∧ mT h (b + 4) = some (10, 200)) ∧
  (mR h b 6 = some (b + 5) ∧ mT h (b + 5) = some (10, 200)) ∧ (mR h b 7 = some (b + 6) ∧ mT h (b + 6) = some (10, 200)) ∧ (mR h b 8 = some (b + 7) ∧ mT h (b + 7) = some (13, 6)) ∧ (mR h b 9 = some (b + 14) ∧ mT h (b + 14) = some (13, 6)) ∧ (mR h b 10 = some (b + 21) ∧ mT h (b + 21) = some (13, 6)) ∧ (mR h b 11 = some (b + 28) ∧ mT h (b + 28) = some (10, 60)) ∧
  (∀ s : Int, 0 ≤ s → s < 6 → mR h (b + 7) s = some (b + 8 + s.toNat) ∧ mT h (b + 8 + s.toNat) = some (10, 200)) ∧ (∀ s : Int, 0 ≤ s → s < 6 → mR h (b + 14) s = some (b + 15 + s.toNat) ∧ mT h (b + 15 + s.toNat) = some (10, 200)) ∧ (∀ s : Int, 0 ≤ s → s < 6 → mR h (b + 21) s = some (b + 22 + s.toNat) ∧ mT h (b + 22 + s.toNat) = some (10, 400))
def RpS (h : xM) (a b : Nat) : Prop := mT h a = some (3, 1) ∧ mR h a 0 = some b
def HiS (h : xM) (a : Nat) : Prop := mT h a = some (2, 2) ∧ mR h a 1 = some (a + 1) ∧ mT h (a + 1) = some (14, 6)
def TxS (h : xM) (a : Nat) : Prop := mT h a = some (4, 2) ∧ mR h a 1 = some (a + 1) ∧ mT h (a + 1) = some (11, 60)
def ElS (h : xM) (x : Nat) : Prop := mT h x = some (5, 5) ∧ mR h x 0 = some (x + 1) ∧ mR h x 1 = some (x + 30) ∧ mR h x 2 = some (x + 31) ∧ mR h x 3 = some (x + 33) ∧ ChS h (x + 1) ∧ RpS h (x + 30) (x + 1) ∧ HiS h (x + 31) ∧ TxS h (x + 33)
def MoS (h : xM) (m : Nat) : Prop := mT h m = some (6, 13) ∧ mR h m 0 = some (m + 1) ∧ mT h (m + 1) = some (10, 35288) ∧ mR h m 4 = some (m + 2) ∧ mT h (m + 2) = some (11, 60) ∧ mR h m 12 = some (m + 3) ∧ mT h (m + 3) = some (10, 60)
theorem ChS.of {h h' : xM} {b : Nat} (H : ChS h b) (hT : ∀ a, b ≤ a → a < b + 29 → mT h' a = mT h a) (hR : ∀ a, b ≤ a → a < b + 29 → mR h' a = mR h a) : ChS h' b := by
  obtain ⟨a0, ⟨a1, b1⟩, ⟨a2, b2⟩, ⟨a3, b3⟩, ⟨a4, b4⟩, ⟨a5, b5⟩, ⟨a6, b6⟩, ⟨a7, b7⟩, ⟨a8, b8⟩, ⟨a9, b9⟩, ⟨a10, b10⟩, c1, c2, c3⟩ := H
  have hb := hR b (by omega) (by omega)
  unfold ChS
  rw [hb, hT b (by omega) (by omega), hT (b + 1) (by omega) (by omega), hT (b + 2) (by omega) (by omega), hT (b + 3) (by omega) (by omega), hT (b + 4) (by omega) (by omega), hT (b + 5) (by omega) (by omega), hT (b + 6) (by omega) (by omega), hT (b + 7) (by omega) (by omega), hT (b + 14) (by omega) (by omega), hT (b + 21) (by omega) (by omega), hT (b + 28) (by omega) (by omega), hR (b + 7) (by omega) (by omega), hR (b + 14) (by omega) (by omega), hR (b + 21) (by omega) (by omega)]
  refine ⟨a0, ⟨a1, b1⟩, ⟨a2, b2⟩, ⟨a3, b3⟩, ⟨a4, b4⟩, ⟨a5, b5⟩, ⟨a6, b6⟩, ⟨a7, b7⟩, ⟨a8, b8⟩, ⟨a9, b9⟩, ⟨a10, b10⟩, fun s h1 h2 => ?_, fun s h1 h2 => ?_, fun s h1 h2 => ?_⟩
  · rw [hT (b + 8 + s.toNat) (by omega) (by omega)]; exact c1 s h1 h2
  · rw [hT (b + 15 + s.toNat) (by omega) (by omega)]; exact c2 s h1 h2
  · rw [hT (b + 22 + s.toNat) (by omega) (by omega)]; exact c3 s h1 h2
