/-! ===== the model's line ===== -/
def lO (L : lS) : Prop := lP L ∧ (aOK (lA L) ∧ (∀ i, 0 ≤ i → i < lZ L → aOK (lSv L i)) ∧ (lKf L = 1 → aOK (lK L))) ∧ (0 ≤ lZ L ∧ lZ L ≤ 6) ∧ (lKf L = 0 ∨ lKf L = 1) ∧ (0 ≤ lTn L ∧ lTn L ≤ 60) ∧ ∀ j, 0 ≤ j → j < lTn L → 33 ≤ lTg L j ∧ lTg L j ≤ 126
theorem EL.lO {h : xM} {x lo : Nat} {L : lS} (H : EL h x lo L) : lO L := by
  obtain ⟨a1, a2, a3, a4, a5, a6, a7, a8⟩ := H
  refine ⟨a6, ⟨a2.1.2.1, fun i h1 h2 => ?_, fun hk => ?_⟩, a3.2.2.1, ?_, a5.2.1, fun j h1 h2 => (a5.2.2 j h1 h2).2⟩
  · rcases a3.2.2.2.1 i h1 (by have := a3.2.2.1; omega) with e | ⟨b, e1, e2, e3, e4, e5⟩
    · omega
    · exact (e5 h2).1.2.1
  · rcases a4 with e | ⟨b, e1, e2, e3, e4, e5, e6⟩
    · omega
    · exact e5.1.2.1
  · rcases a4 with e | ⟨b, e1, e2⟩
    · exact Or.inl e.2
    · exact Or.inr e1
/-- the model at m is L -/
def ML (h : xM) (m : Nat) (L : lS) : Prop := MoS h m ∧ RM h (m + 1) 0 (lA L) ∧ mI h m 1 = lZ L ∧ (∀ i, 0 ≤ i → i < lZ L → RM h (m + 1) (4411 * (i + 1)) (lSv L i)) ∧ mI h m 2 = lKf L ∧ (lKf L = 1 → RM h (m + 1) (4411 * 7) (lK L)) ∧ mI h m 5 = lTn L ∧ (∀ j, 0 ≤ j → j < lTn L → mI h (m + 2) j = lTg L j) ∧ lO L
/-- what saving leaves alone -/
def GS (h g : xM) (m : Nat) : Prop := FM h g m ∧ (∀ q, q ≠ m → q ≠ m + 1 → mI g q = mI h q) ∧ (∀ j, j ≠ 1 → mI g m j = mI h m j) ∧ (∀ j, (j < 4411 ∨ 4411 * 7 ≤ j) → mI g (m + 1) j = mI h (m + 1) j)
theorem GS.rf {h : xM} {m : Nat} : GS h h m := ⟨FM.rf, fun _ _ _ => rfl, fun _ _ => rfl, fun _ _ => rfl⟩
theorem GS.tr {h g k : xM} {m : Nat} (H : GS h g m) (H' : GS g k m) : GS h k m := ⟨H.1.tr H'.1, fun q z1 z2 => (H'.2.1 q z1 z2).trans (H.2.1 q z1 z2), fun j z => (H'.2.2.1 j z).trans (H.2.2.1 j z), fun j z => (H'.2.2.2 j z).trans (H.2.2.2 j z)⟩
theorem GS.w {h g : xM} {m : Nat} {x : Int} (H : GS h g m) : GS h (sI g m 1 x) m := ⟨H.1.w ⟨by omega, by omega⟩, fun q z1 z2 => by rw [← H.2.1 q z1 z2]; funext j; rw [mI_sI, if_neg (fun y => z1 y.1)], fun j z => by rw [← H.2.2.1 j z, mI_sI, if_neg (fun y => z y.2)], fun j z => by rw [← H.2.2.2 j z, mI_sI, if_neg (by omega)]⟩
/-- a row was copied -/
def hCp (h g : xM) (m : Nat) (f t : Int) : Prop := FM h g m ∧ (∀ q, q ≠ m + 1 → mI g q = mI h q) ∧ (∀ j, 0 ≤ j → j < 4411 → mI g (m + 1) (4411 * t + j) = mI h (m + 1) (4411 * f + j)) ∧ (∀ j, (j < 4411 * t ∨ 4411 * t + 4411 ≤ j) → mI g (m + 1) j = mI h (m + 1) j)
theorem hCp.gs {h g : xM} {m : Nat} {f t : Int} (H : hCp h g m f t) (ht : 1 ≤ t ∧ t ≤ 6) : GS h g m := ⟨H.1, fun q _ z => H.2.1 q z, fun j _ => by rw [H.2.1 m (by omega)], fun j z => H.2.2.2 j (by omega)⟩
theorem hCp.at {h g : xM} {m : Nat} {f t : Int} {A : aS} (H : hCp h g m f t) (hA : aOK A) (hR : RM h (m + 1) (4411 * f) A) : RM g (m + 1) (4411 * t) A := RM_copy hR hA H.2.2.1
theorem hCp.no {h g : xM} {m : Nat} {f t i : Int} {A : aS} (H : hCp h g m f t) (hA : aOK A) (hi : i ≠ t) (hR : RM h (m + 1) (4411 * i) A) : RM g (m + 1) (4411 * i) A := RM_keep hR hA (fun j z1 z2 => H.2.2.2 j (by omega))
theorem GS.row {h g : xM} {m : Nat} {A : aS} {o : Int} (H : GS h g m) (hA : aOK A) (ho : o = 0 ∨ o = 4411 * 7) (hR : RM h (m + 1) o A) : RM g (m + 1) o A := RM_keep hR hA (fun j z1 z2 => H.2.2.2 j (by omega))
theorem lO.save {L : lS} (H : lO L) : lO (sSave L) := by
  obtain ⟨h1, h2, h3, h4, h5, h6⟩ := H
  have key : ∀ i, 0 ≤ i → i < psz (lZ L) → aPast (psh (lZ L) (lSv L) (lA L) i) ∧ aOK (psh (lZ L) (lSv L) (lA L) i) := fun i z1 z2 => by
    unfold psh
    by_cases e1 : i = psz (lZ L) - 1
    · rw [if_pos e1]; exact ⟨h1.1, h2.1⟩
    · rw [if_neg e1]
      unfold psz at e1 z2
      by_cases e2 : lZ L = 6
      · rw [if_pos e2]; rw [if_pos e2] at e1 z2; exact ⟨h1.2.1 (i + 1) (by omega) (by omega), h2.2.1 (i + 1) (by omega) (by omega)⟩
      · rw [if_neg e2]; rw [if_neg e2] at e1 z2; exact ⟨h1.2.1 i z1 (by omega), h2.2.1 i z1 (by omega)⟩
  refine ⟨⟨h1.1, fun i z1 z2 => (key i z1 z2).1, h1.2.2⟩, ⟨h2.1, fun i z1 z2 => (key i z1 z2).2, h2.2.2⟩, ?_, h4, h5, h6⟩
  show 0 ≤ psz (lZ L) ∧ psz (lZ L) ≤ 6
  unfold psz
  split <;> omega
theorem lO.now {L : lS} {A : aS} (H : lO L) (hA : aOK A) (hp : aPast A) : lO (sA L A) := ⟨⟨hp, H.1.2⟩, ⟨hA, H.2.1.2⟩, H.2.2⟩
/-- only the first row is another -/
theorem ML.now {h g : xM} {m : Nat} {L : lS} {A : aS} (H : ML h m L) (hF : FS h g m) (hR : RM g (m + 1) 0 A) (hA : aOK A) (hp : aPast A) : ML g m (sA L A) := by
  obtain ⟨a1, a2, a3, a4, a5, a6, a7, a8, a9⟩ := H
  have hm := hF.2.1 m (by omega)
  refine ⟨a1.eq hF.1.2.1 hF.1.2.2.1, hR, by rw [hm]; exact a3, fun i z1 z2 => RM_keep (a4 i z1 z2) (a9.2.1.2.1 i z1 z2) (fun j y1 y2 => hF.2.2 j (by omega)), by rw [hm]; exact a5, fun z => RM_keep (a6 z) (a9.2.1.2.2 z) (fun j y1 y2 => hF.2.2 j (by omega)), by rw [hm]; exact a7, by rw [hF.2.1 (m + 2) (by omega)]; exact a8, a9.now hA hp⟩
/-- numbers of the model that are not told here are others -/
theorem ML.th {h g : xM} {m : Nat} {L : lS} (H : ML h m L) (hF : FM h g m) (h1 : mI g (m + 1) = mI h (m + 1)) (h2 : mI g (m + 2) = mI h (m + 2)) (h0 : ∀ j, j = 1 ∨ j = 2 ∨ j = 5 → mI g m j = mI h m j) : ML g m L := by
  obtain ⟨a1, a2, a3, a4, a5, a6, a7, a8, a9⟩ := H
  have hr : ∀ o A, aOK A → RM h (m + 1) o A → RM g (m + 1) o A := fun o A hA hR => RM_keep hR hA (fun j _ _ => by rw [h1])
  exact ⟨a1.eq hF.2.1 hF.2.2.1, hr _ _ a9.2.1.1 a2, by rw [h0 1 (by omega)]; exact a3, fun i z1 z2 => hr _ _ (a9.2.1.2.1 i z1 z2) (a4 i z1 z2), by rw [h0 2 (by omega)]; exact a5, fun z => hr _ _ (a9.2.1.2.2 z) (a6 z), by rw [h0 5 (by omega)]; exact a7, by rw [h2]; exact a8, a9⟩
theorem ML.save {h g : xM} {m : Nat} {L : lS} (H : ML h m L) (hG : GS h g m) (hz : mI g m 1 = psz (lZ L)) (hr : ∀ i, 0 ≤ i → i < psz (lZ L) → RM g (m + 1) (4411 * (i + 1)) (psh (lZ L) (lSv L) (lA L) i)) : ML g m (sSave L) := by
  obtain ⟨a1, a2, a3, a4, a5, a6, a7, a8, a9⟩ := H
  exact ⟨a1.eq hG.1.2.1 hG.1.2.2.1, hG.row a9.2.1.1 (Or.inl rfl) a2, hz, hr, by rw [hG.2.2.1 2 (by omega)]; exact a5, fun z => hG.row (a9.2.1.2.2 z) (Or.inr rfl) (a6 z), by rw [hG.2.2.1 5 (by omega)]; exact a7, by rw [hG.2.1 (m + 2) (by omega) (by omega)]; exact a8, a9.save⟩
def py3 (p q r : Prop) (c : Int) : Prop := (¬ p ∧ c = 1) ∨ (p ∧ ¬ q ∧ c = 2) ∨ (p ∧ q ∧ ¬ r ∧ c = 3)
