/-! ===== the model: its rows ===== -/
def FM (h g : xM) (m : Nat) : Prop := mN g = mN h ∧ mT g = mT h ∧ mR g = mR h ∧ mL g = mL h ∧ ∀ a, (a < m ∨ m + 4 ≤ a) → mI g a = mI h a
theorem FM.rf {h : xM} {m : Nat} : FM h h m := ⟨rfl, rfl, rfl, rfl, fun _ _ => rfl⟩
theorem FM.w {h g : xM} {m a : Nat} {k x : Int} (H : FM h g m) (ha : m ≤ a ∧ a < m + 4) : FM h (sI g a k x) m := ⟨H.1, H.2.1, H.2.2.1, H.2.2.2.1, fun c hc => by
  rw [← H.2.2.2.2 c hc]
  funext j
  rw [mI_sI, if_neg (by omega)]⟩
theorem FM.tr {h g k : xM} {m : Nat} (H : FM h g m) (H' : FM g k m) : FM h k m := ⟨H'.1.trans H.1, H'.2.1.trans H.2.1, H'.2.2.1.trans H.2.2.1, H'.2.2.2.1.trans H.2.2.2.1, fun c hc => (H'.2.2.2.2 c hc).trans (H.2.2.2.2 c hc)⟩
theorem MoS.eq {h g : xM} {m : Nat} (H : MoS h m) (hT : mT g = mT h) (hR : mR g = mR h) : MoS g m := by
  unfold MoS
  rw [hT, hR]
  exact H
theorem FM.sam {h g : xM} {m a : Nat} (H : FM h g m) (ha : a < m ∨ m + 4 ≤ a) : Sam h g a := ⟨by rw [H.2.1], H.2.2.2.2 a ha, by rw [H.2.2.1], by rw [H.2.2.2.1]⟩
theorem mI_at {h : xM} {a : Nat} {i j v : Int} (H : mI h a j = v) (e : i = j) : mI h a i = v := by rw [e]; exact H
theorem cp_at {g h : xM} {a : Nat} {p o i i' v : Int} (j : Int) (hI : ∀ j, 0 ≤ j → j < 4411 → mI g a (p + j) = mI h a (o + j)) (hv : mI h a i = v) (e : i = o + j) (e' : i' = p + j) (h0 : 0 ≤ j ∧ j < 4411) : mI g a i' = v := by
  subst e; subst e'; rw [hI j h0.1 h0.2]; exact hv
theorem RM_copy {g h : xM} {a : Nat} {p o : Int} {A : aS} (H : RM h a o A) (hA : aOK A) (hI : ∀ j, 0 ≤ j → j < 4411 → mI g a (p + j) = mI h a (o + j)) : RM g a p A := by
  have hW := hA.2.1
  have hB := hA.1
  obtain ⟨a1, a2, a3, a4, a5, a6, a7⟩ := H
  refine ⟨fun j h1 h2 => cp_at j hI (a1 j h1 h2) rfl rfl ⟨by omega, by omega⟩, cp_at 3 hI a2 rfl rfl ⟨by omega, by omega⟩, cp_at 4 hI a3 rfl rfl ⟨by omega, by omega⟩, fun j h1 h2 => cp_at (5 + j) hI (a4 j h1 h2) (by omega) (by omega) ⟨by omega, by omega⟩, fun n h1 h2 => ?_, fun s n h1 h2 h3 h4 => cp_at (15 + 10 * n + s) hI (a6 s n h1 h2 h3 h4) (by omega) (by omega) ⟨by omega, by omega⟩, fun s k h1 h2 h3 h4 => cp_at (2011 + 400 * s + k) hI (a7 s k h1 h2 h3 h4) (by omega) (by omega) ⟨by omega, by omega⟩⟩
  obtain ⟨b1, b2, b3, b4⟩ := a5 n h1 h2
  exact ⟨cp_at (11 + 10 * n) hI b1 (by omega) (by omega) ⟨by omega, by omega⟩, cp_at (12 + 10 * n) hI b2 (by omega) (by omega) ⟨by omega, by omega⟩, cp_at (13 + 10 * n) hI b3 (by omega) (by omega) ⟨by omega, by omega⟩, cp_at (14 + 10 * n) hI b4 (by omega) (by omega) ⟨by omega, by omega⟩⟩
theorem RM_keep {g h : xM} {a : Nat} {o : Int} {A : aS} (H : RM h a o A) (hA : aOK A) (hI : ∀ j, o ≤ j → j < o + 4411 → mI g a j = mI h a j) : RM g a o A := RM_copy H hA (fun j h1 h2 => hI (o + j) (by omega) (by omega))
/-- the beat of now is over -/
theorem RM_end {g h : xM} {a : Nat} {A : aS} (H : RM h a 0 A) (hA : aOK A) (hB : aB A < 400) (hv : ∀ q, 0 ≤ q → q < 6 → mI g a (2011 + 400 * q + aB A) = vce A q (aB A)) (h3 : mI g a 3 = aB A + 1) (ho : ∀ j, 0 ≤ j → j < 4411 → j ≠ 3 → (∀ q, 0 ≤ q → q < 6 → j ≠ 2011 + 400 * q + aB A) → mI g a j = mI h a j) : RM g a 0 (aEnd A) := by
  have hW := hA.2.1
  have hB0 := hA.1
  obtain ⟨a1, a2, a3, a4, a5, a6, a7⟩ := H
  have st : ∀ i v, mI h a i = v → 0 ≤ i → i < 2011 → i ≠ 3 → mI g a i = v := fun i v e z1 z2 z3 => by rw [ho i z1 (by omega) z3 (fun q y1 y2 => by omega)]; exact e
  refine ⟨fun j h1 h2 => st _ _ (a1 j h1 h2) (by omega) (by omega) (by omega), h3, st _ _ a3 (by omega) (by omega) (by omega), fun j h1 h2 => st _ _ (a4 j h1 h2) (by omega) (by omega) (by omega), fun n h1 h2 => ?_, fun s n h1 h2 h3 h4 => ?_, fun s k h1 h2 h3 h4 => ?_⟩
  · have h2 : n < aW A := h2
    obtain ⟨b1, b2, b3, b4⟩ := a5 n h1 h2
    exact ⟨st _ _ b1 (by omega) (by omega) (by omega), st _ _ b2 (by omega) (by omega) (by omega), st _ _ b3 (by omega) (by omega) (by omega), st _ _ b4 (by omega) (by omega) (by omega)⟩
  · have h4 : n < aW A := h4
    exact st _ _ (a6 s n h1 h2 h3 h4) (by omega) (by omega) (by omega)
  · have h4 : k < aB A + 1 := h4
    show _ = if k = aB A then vce A s (aB A) else aHe A s k
    by_cases e : k = aB A
    · rw [if_pos e]; exact mI_at (hv s h1 h2) (by omega)
    · rw [if_neg e, ho (0 + 2011 + 400 * s + k) (by omega) (by omega) (by omega) (fun q y1 y2 => by omega)]
      exact a7 s k h1 h2 h3 (by omega)
/-- a word more -/
theorem RM_add {g h : xM} {a : Nat} {A : aS} {s w m : Int} (H : RM h a 0 A) (hA : aOK A) (hW2 : aW A < 200) (h0 : mI g a (11 + 10 * aW A) = s) (h1 : mI g a (12 + 10 * aW A) = w) (h2 : mI g a (13 + 10 * aW A) = m) (h3 : mI g a (14 + 10 * aW A) = aB A) (hc : ∀ q, 0 ≤ q → q < 6 → mI g a (15 + 10 * aW A + q) = if dly A s q = -1 then -1 else aB A + dly A s q) (h4 : mI g a 4 = aW A + 1) (ho : ∀ j, 0 ≤ j → j < 4411 → j ≠ 4 → (j < 11 + 10 * aW A ∨ 21 + 10 * aW A ≤ j) → mI g a j = mI h a j) : RM g a 0 (aAdd A s w m) := by
  have hW := hA.2.1
  have hB0 := hA.1
  obtain ⟨a1, a2, a3, a4, a5, a6, a7⟩ := H
  have st : ∀ i v, mI h a i = v → 0 ≤ i → i < 4411 → i ≠ 4 → (i < 11 + 10 * aW A ∨ 21 + 10 * aW A ≤ i) → mI g a i = v := fun i v e z1 z2 z3 z4 => by rw [ho i z1 z2 z3 z4]; exact e
  refine ⟨fun j y1 y2 => st _ _ (a1 j y1 y2) (by omega) (by omega) (by omega) (by omega), st _ _ a2 (by omega) (by omega) (by omega) (by omega), h4, fun j y1 y2 => st _ _ (a4 j y1 y2) (by omega) (by omega) (by omega) (by omega), fun n y1 y2 => ?_, fun q n y1 y2 y3 y4 => ?_, fun q k y1 y2 y3 y4 => ?_⟩
  · have y2 : n < aW A + 1 := y2
    show _ = (if n = aW A then s else aSe A n) ∧ _ = (if n = aW A then w else aWo A n) ∧ _ = (if n = aW A then m else aMa A n) ∧ _ = (if n = aW A then aB A else aAt A n)
    by_cases e : n = aW A
    · rw [if_pos e, if_pos e, if_pos e, if_pos e]
      exact ⟨mI_at h0 (by omega), mI_at h1 (by omega), mI_at h2 (by omega), mI_at h3 (by omega)⟩
    · rw [if_neg e, if_neg e, if_neg e, if_neg e]
      obtain ⟨b1, b2, b3, b4⟩ := a5 n y1 (by omega)
      exact ⟨st _ _ b1 (by omega) (by omega) (by omega) (by omega), st _ _ b2 (by omega) (by omega) (by omega) (by omega), st _ _ b3 (by omega) (by omega) (by omega) (by omega), st _ _ b4 (by omega) (by omega) (by omega) (by omega)⟩
  · have y4 : n < aW A + 1 := y4
    show _ = if n = aW A then (if dly A s q = -1 then -1 else aB A + dly A s q) else aCo A q n
    by_cases e : n = aW A
    · rw [if_pos e]; exact mI_at (hc q y1 y2) (by omega)
    · rw [if_neg e]; exact st _ _ (a6 q n y1 y2 y3 (by omega)) (by omega) (by omega) (by omega) (by omega)
  · have y4 : k < aB A := y4
    exact st _ _ (a7 q k y1 y2 y3 y4) (by omega) (by omega) (by omega) (by omega)
theorem vFo_at {f : Int → Int} {m t k : Int} (h : 0 ≤ k) : vFo f m t (k + 1).toNat = vSt f m t k (vFo f m t k.toNat) := by
  rw [show (k + 1).toNat = k.toNat + 1 by omega]
  show vSt f m t (k.toNat : Nat) _ = _
  rw [show ((k.toNat : Nat) : Int) = k by omega]
