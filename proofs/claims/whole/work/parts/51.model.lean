/-! ===== the model: walls, settings, text, undo, snapshot ===== -/
theorem aSWl_ok {A : aS} {s k : Int} (H : aOK A) (hk : 0 ≤ k ∧ k ≤ 3) : aOK (aSWl A s k) := ⟨H.1, H.2.1, fun j h1 h2 => by
  show 0 ≤ (if j = s then k else aWl A j) ∧ (if j = s then k else aWl A j) ≤ 3
  have := H.2.2.1 j h1 h2
  split <;> omega, H.2.2.2⟩
theorem aSSt_ok {A : aS} {s k : Int} (H : aOK A) (hk : stOK s k) : aOK (aSSt A s k) := ⟨H.1, H.2.1, H.2.2.1, by
  show (0 ≤ (if (0 : Int) = s then k else aSt A 0) ∧ (if (0 : Int) = s then k else aSt A 0) ≤ 5) ∧ (0 ≤ (if (1 : Int) = s then k else aSt A 1) ∧ (if (1 : Int) = s then k else aSt A 1) ≤ 4) ∧ (1 ≤ (if (2 : Int) = s then k else aSt A 2) ∧ (if (2 : Int) = s then k else aSt A 2) ≤ 50)
  have := H.2.2.2.1
  unfold stOK at hk
  omega, H.2.2.2.2⟩
theorem RM_wl {g h : xM} {a : Nat} {A : aS} {s k : Int} (H : RM h a 0 A) (hs : 0 ≤ s ∧ s < 6) (hI : ∀ j, mI g a j = if j = 5 + s then k else mI h a j) : RM g a 0 (aSWl A s k) := by
  obtain ⟨a1, a2, a3, a4, a5, a6, a7⟩ := H
  have st : ∀ i v, mI h a i = v → (i < 5 ∨ 11 ≤ i) → mI g a i = v := fun i v e z => by rw [hI, if_neg (by omega)]; exact e
  refine ⟨fun j h1 h2 => st _ _ (a1 j h1 h2) (by omega), st _ _ a2 (by omega), st _ _ a3 (by omega), fun j h1 h2 => ?_, fun n h1 h2 => ?_, fun s n h1 h2 h3 h4 => st _ _ (a6 s n h1 h2 h3 h4) (by omega), fun s k h1 h2 h3 h4 => st _ _ (a7 s k h1 h2 h3 h4) (by omega)⟩
  · rw [hI]
    show _ = if j = s then k else aWl A j
    by_cases e : j = s
    · rw [if_pos (by omega), if_pos e]
    · rw [if_neg (by omega), if_neg e]; exact a4 j h1 h2
  · obtain ⟨b1, b2, b3, b4⟩ := a5 n h1 h2
    exact ⟨st _ _ b1 (by omega), st _ _ b2 (by omega), st _ _ b3 (by omega), st _ _ b4 (by omega)⟩
theorem RM_st {g h : xM} {a : Nat} {A : aS} {s k : Int} (H : RM h a 0 A) (hs : 0 ≤ s ∧ s < 3) (hI : ∀ j, mI g a j = if j = s then k else mI h a j) : RM g a 0 (aSSt A s k) := by
  obtain ⟨a1, a2, a3, a4, a5, a6, a7⟩ := H
  have st : ∀ i v, mI h a i = v → 3 ≤ i → mI g a i = v := fun i v e z => by rw [hI, if_neg (by omega)]; exact e
  refine ⟨fun j h1 h2 => ?_, st _ _ a2 (by omega), st _ _ a3 (by omega), fun j h1 h2 => st _ _ (a4 j h1 h2) (by omega), fun n h1 h2 => ?_, fun s n h1 h2 h3 h4 => st _ _ (a6 s n h1 h2 h3 h4) (by omega), fun s k h1 h2 h3 h4 => st _ _ (a7 s k h1 h2 h3 h4) (by omega)⟩
  · rw [hI]
    show _ = if j = s then k else aSt A j
    by_cases e : j = s
    · rw [if_pos (by omega), if_pos e]
    · rw [if_neg (by omega), if_neg e]; exact a1 j h1 h2
  · obtain ⟨b1, b2, b3, b4⟩ := a5 n h1 h2
    exact ⟨st _ _ b1 (by omega), st _ _ b2 (by omega), st _ _ b3 (by omega), st _ _ b4 (by omega)⟩
theorem ML.text {h g : xM} {m : Nat} {L : lS} {n : Int} {G : Int → Int} (H : ML h m L) (hF : FM h g m) (h1 : mI g (m + 1) = mI h (m + 1)) (h0 : ∀ j, j = 1 ∨ j = 2 → mI g m j = mI h m j) (h5 : mI g m 5 = n) (hn : 0 ≤ n ∧ n ≤ 60) (hG : ∀ j, 0 ≤ j → j < n → mI g (m + 2) j = G j ∧ (33 ≤ G j ∧ G j ≤ 126)) : ML g m (sTx L n G) := by
  obtain ⟨a1, a2, a3, a4, a5, a6, a7, a8, a9⟩ := H
  have hr : ∀ o A, aOK A → RM h (m + 1) o A → RM g (m + 1) o A := fun o A hA hR => RM_keep hR hA (fun j _ _ => by rw [h1])
  exact ⟨a1.eq hF.2.1 hF.2.2.1, hr _ _ a9.2.1.1 a2, by rw [h0 1 (by omega)]; exact a3, fun i z1 z2 => hr _ _ (a9.2.1.2.1 i z1 z2) (a4 i z1 z2), by rw [h0 2 (by omega)]; exact a5, fun z => hr _ _ (a9.2.1.2.2 z) (a6 z), h5, fun j z1 z2 => (hG j z1 z2).1, ⟨a9.1, a9.2.1, a9.2.2.1, a9.2.2.2.1, hn, fun j z1 z2 => (hG j z1 z2).2⟩⟩
/-- the row of now is another one's -/
theorem ML.cp {h g : xM} {m : Nat} {L : lS} {f : Int} {A : aS} (H : ML h m L) (hC : hCp h g m f 0) (hR : RM h (m + 1) (4411 * f) A) (hA : aOK A) (hp : aPast A) : ML g m (sA L A) ∧ (∀ j, mI g m j = mI h m j) := by
  have h2 := hC.at hA hR
  refine ⟨H.now ⟨hC.1, hC.2.1, fun j z => hC.2.2.2 j (by omega)⟩ h2 hA hp, fun j => by rw [hC.2.1 m (by omega)]⟩
theorem ML.drop {h g : xM} {m : Nat} {L : lS} {z : Int} (H : ML h m L) (hz : 0 ≤ z ∧ z ≤ lZ L) (hF : FM h g m) (h1 : mI g (m + 1) = mI h (m + 1)) (h2 : mI g (m + 2) = mI h (m + 2)) (h0 : ∀ j, j = 2 ∨ j = 5 → mI g m j = mI h m j) (hz1 : mI g m 1 = z) : ML g m (sZ L z) := by
  obtain ⟨a1, a2, a3, a4, a5, a6, a7, a8, a9⟩ := H
  have hr : ∀ o A, aOK A → RM h (m + 1) o A → RM g (m + 1) o A := fun o A hA hR => RM_keep hR hA (fun j _ _ => by rw [h1])
  have hz6 := a9.2.2.1
  refine ⟨a1.eq hF.2.1 hF.2.2.1, hr _ _ a9.2.1.1 a2, hz1, fun i z1 z2 => ?_, by rw [h0 2 (by omega)]; exact a5, fun z => hr _ _ (a9.2.1.2.2 z) (a6 z), by rw [h0 5 (by omega)]; exact a7, by rw [h2]; exact a8, ⟨⟨a9.1.1, fun i z1 z2 => ?_, a9.1.2.2⟩, ⟨a9.2.1.1, fun i z1 z2 => ?_, a9.2.1.2.2⟩, ⟨hz.1, by show z ≤ 6; omega⟩, a9.2.2.2⟩⟩
  · have z2 : i < z := z2
    exact hr _ _ (a9.2.1.2.1 i z1 (by omega)) (a4 i z1 (by omega))
  · have z2 : i < z := z2
    exact a9.1.2.1 i z1 (by omega)
  · have z2 : i < z := z2
    exact a9.2.1.2.1 i z1 (by omega)
theorem ML.keep {h g : xM} {m : Nat} {L : lS} (H : ML h m L) (hF : FM h g m) (h0r : ∀ j, 0 ≤ j → j < 4411 → mI g (m + 1) (4411 * 7 + j) = mI h (m + 1) (0 + j)) (h1 : ∀ j, j < 4411 * 7 → mI g (m + 1) j = mI h (m + 1) j) (h2 : mI g (m + 2) = mI h (m + 2)) (h0 : ∀ j, j = 1 ∨ j = 5 → mI g m j = mI h m j) (hk : mI g m 2 = 1) : ML g m (sK L) := by
  obtain ⟨a1, a2, a3, a4, a5, a6, a7, a8, a9⟩ := H
  have hz6 := a9.2.2.1
  exact ⟨a1.eq hF.2.1 hF.2.2.1, RM_keep a2 a9.2.1.1 (fun j _ _ => h1 j (by omega)), by rw [h0 1 (by omega)]; exact a3, fun i z1 z2 => RM_keep (a4 i z1 z2) (a9.2.1.2.1 i z1 z2) (fun j _ _ => h1 j (by have z2 : i < lZ L := z2; omega)), hk, fun _ => RM_copy a2 a9.2.1.1 h0r, by rw [h0 5 (by omega)]; exact a7, by rw [h2]; exact a8, ⟨⟨a9.1.1, a9.1.2.1, fun _ => a9.1.1⟩, ⟨a9.2.1.1, a9.2.1.2.1, fun _ => a9.2.1.1⟩, a9.2.2.1, Or.inr rfl, a9.2.2.2.2⟩⟩
