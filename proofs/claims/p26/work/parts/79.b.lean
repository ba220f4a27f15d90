/-! ===== the law's own methods ===== -/
theorem py3_rng {p q r : Prop} {c : Int} (h : py3 p q r c) : 1 ≤ c ∧ c ≤ 3 := by
  rcases h with z | z | z
  · have := z.2; omega
  · have := z.2.2; omega
  · have := z.2.2.2; omega
theorem sil_0 {A : aS} {n s : Int} (h : fh A s n ≠ -1) : sil A n s = 0 := if_pos h
theorem why_0 {A : aS} {n s : Int} (h : fh A s n ≠ -1) : why A n s = 0 := if_pos h
theorem why_all (A : aS) (n s : Int) : (fh A s n ≠ -1 ∧ why A n s = 0) ∨ (fh A s n = -1 ∧ ((aCo A s n = -1 ∧ why A n s = 1) ∨ (aCo A s n ≠ -1 ∧ aB A ≤ aCo A s n ∧ why A n s = 2) ∨ (aCo A s n ≠ -1 ∧ aCo A s n < aB A ∧ why A n s = 3))) := by
  unfold why
  by_cases e1 : fh A s n = -1
  · rw [if_neg (fun z => z e1)]
    by_cases e2 : aCo A s n = -1
    · rw [if_pos e2]; omega
    · rw [if_neg e2]
      by_cases e3 : aB A ≤ aCo A s n
      · rw [if_pos e3]; omega
      · rw [if_neg e3]; omega
  · rw [if_pos e1]; exact Or.inl ⟨e1, rfl⟩
theorem oBt_0 (A : aS) (s k : Int) : oBt A s k 0 = aHe A s k := by
  unfold oBt
  by_cases e : aHe A s k = -1
  · rw [if_pos e, e]
  · rw [if_neg e, if_pos rfl]
theorem oBt_n {A : aS} {s k : Int} (h : aHe A s k = -1) (w : Int) : oBt A s k w = -1 := if_pos h
theorem oBt_2 (A : aS) (s k : Int) : ((0 < k ∧ aHe A s k ≠ -1 ∧ aHe A s k = aHe A s (k - 1)) ∧ oBt A s k 2 = 1) ∨ (¬ (0 < k ∧ aHe A s k ≠ -1 ∧ aHe A s k = aHe A s (k - 1)) ∧ (oBt A s k 2 = -1 ∨ oBt A s k 2 = 0)) := by
  unfold oBt
  by_cases e : aHe A s k = -1
  · rw [if_pos e]
    exact Or.inr ⟨fun z => z.2.1 e, Or.inl rfl⟩
  · rw [if_neg e, if_neg (by decide), if_neg (by decide)]
    by_cases e2 : 0 < k ∧ aHe A s (k - 1) = aHe A s k
    · rw [if_pos e2]
      exact Or.inl ⟨⟨e2.1, e, e2.2.symm⟩, rfl⟩
    · rw [if_neg e2]
      exact Or.inr ⟨fun z => e2 ⟨z.1, z.2.2.symm⟩, Or.inr rfl⟩
/-- two rows of six ints, made behind hb -/
def HM (hb h : xM) (a : Nat) : Prop := a = mN hb ∧ a + 2 ≤ mN h ∧ (∀ q, q < a → Sam hb h q) ∧ mT h a = some (10, 6) ∧ mT h (a + 1) = some (10, 6)
theorem sI_sam {h : xM} {a c : Nat} {j v : Int} (hc : c ≠ a) : Sam h (sI h a j v) c := ⟨rfl, funext fun k => by rw [show mI (sI h a j v) c k = if c = a ∧ k = j then v else mI h c k from rfl, if_neg (fun z => hc z.1)], rfl, rfl⟩
theorem HM.w0 {hb h : xM} {a : Nat} (H : HM hb h a) {j v : Int} : HM hb (sI h a j v) a := ⟨H.1, H.2.1, fun q z => (H.2.2.1 q z).tr (sI_sam (by omega)), H.2.2.2.1, H.2.2.2.2⟩
theorem HM.w1 {hb h : xM} {a : Nat} (H : HM hb h a) {j v : Int} : HM hb (sI h (a + 1) j v) a := ⟨H.1, H.2.1, fun q z => (H.2.2.1 q z).tr (sI_sam (by omega)), H.2.2.2.1, H.2.2.2.2⟩
theorem HM.el {hb h : xM} {a x lo : Nat} {L : lS} (H : HM hb h a) (hE : EL hb x lo L) : EL h x lo L ∧ EF hb h x lo := hE.up (by have := H.1; have := H.2.1; omega) (fun q z => H.2.2.1 q (by have := H.1; omega))
theorem stv {A : aS} (hA : aOK A) {s : Int} (h : 0 ≤ s ∧ s ≤ 2) : 0 ≤ aSt A s ∧ aSt A s ≤ 50 := by
  have okl := hA.2.2.2.1
  rcases (show s = 0 ∨ s = 1 ∨ s = 2 by omega) with rfl | rfl | rfl <;> omega
theorem pass_he {A : aS} {n : Int} (h1 : 1 ≤ n) (h2 : n ≤ 50) : aB A < aB (aRest A n.toNat) ∧ ∀ s, 0 ≤ s → s < 6 → aHe (aRest A n.toNat) s (aB A) = vce A s (aB A) := by
  have e : n.toNat = (n.toNat - 1) + 1 := by omega
  rw [e]
  refine ⟨?_, fun s _ _ => rest_he A s _⟩
  rw [aB_rest]
  omega
