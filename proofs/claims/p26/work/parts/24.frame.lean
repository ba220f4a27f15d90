/-! ===== what a method of a chamber leaves alone ===== -/
def Fr (h h' : xM) (b : Nat) : Prop := mN h' = mN h ∧ mT h' = mT h ∧ mR h' = mR h ∧ mL h' = mL h ∧ ∀ a, (a < b ∨ b + 29 ≤ a) → mI h' a = mI h a
theorem Fr.rf {h : xM} {b : Nat} : Fr h h b := ⟨rfl, rfl, rfl, rfl, fun _ _ => rfl⟩
theorem Fr.w {h g : xM} {b a : Nat} {k x : Int} (H : Fr h g b) (ha : b ≤ a ∧ a < b + 29) : Fr h (sI g a k x) b := ⟨H.1, H.2.1, H.2.2.1, H.2.2.2.1, fun c hc => by
  rw [← H.2.2.2.2 c hc]
  funext j
  rw [mI_sI, if_neg (by omega)]⟩
theorem Fr.tr {h g k : xM} {b : Nat} (H : Fr h g b) (H' : Fr g k b) : Fr h k b := ⟨H'.1.trans H.1, H'.2.1.trans H.2.1, H'.2.2.1.trans H.2.2.1, H'.2.2.2.1.trans H.2.2.2.1, fun c hc => (H'.2.2.2.2 c hc).trans (H.2.2.2.2 c hc)⟩
theorem ChS.eq {h g : xM} {b : Nat} (H : ChS h b) (hT : mT g = mT h) (hR : mR g = mR h) : ChS g b := H.of (fun a _ _ => by rw [hT]) (fun a _ _ => by rw [hR])
theorem R0_keep {h g : xM} {b : Nat} {A : aS} (H : R0 h b A) (hT : mT g = mT h) (hR : mR g = mR h) (hI : ∀ a, b ≤ a → a < b + 14 → mI g a = mI h a) : R0 g b A := by
  obtain ⟨a0, a1, a2, a3, a4, a5, a6, a7, a8, a9, a10⟩ := H
  refine ⟨a0.eq hT hR, a1, ?_, ?_, ?_, ?_, ?_, ?_, ?_, ?_, fun s n h1 h2 => ?_⟩
  · rw [hI b (by omega) (by omega)]; exact a2
  · rw [hI b (by omega) (by omega)]; exact a3
  · rw [hI (b + 1) (by omega) (by omega)]; exact a4
  · rw [hI (b + 2) (by omega) (by omega)]; exact a5
  · rw [hI (b + 3) (by omega) (by omega)]; exact a6
  · rw [hI (b + 4) (by omega) (by omega)]; exact a7
  · rw [hI (b + 5) (by omega) (by omega)]; exact a8
  · rw [hI (b + 6) (by omega) (by omega)]; exact a9
  · rw [hI (b + 8 + s.toNat) (by omega) (by omega)]; exact a10 s n h1 h2
theorem RC_keep {h g : xM} {b : Nat} {A : aS} (H : RC h b A) (hT : mT g = mT h) (hR : mR g = mR h) (hI : ∀ a, b ≤ a → a < b + 29 → mI g a = mI h a) : RC g b A := by
  obtain ⟨a0, a1, a2, a3⟩ := H
  refine ⟨R0_keep a0 hT hR (fun a h1 h2 => hI a h1 (by omega)), fun s n h1 h2 => ?_, fun s n h1 h2 => ?_, ?_⟩
  · rw [hI (b + 15 + s.toNat) (by omega) (by omega)]; exact a1 s n h1 h2
  · rw [hI (b + 22 + s.toNat) (by omega) (by omega)]; exact a2 s n h1 h2
  · rw [hI (b + 28) (by omega) (by omega)]; exact a3
theorem R0_keep2 {h g : xM} {b : Nat} {A : aS} (H : R0 h b A) (hT : mT g = mT h) (hR : mR g = mR h) (hI : ∀ a j, b ≤ a → a < b + 14 → (a < b + 3 ∨ j ≠ aW A) → mI g a j = mI h a j) : R0 g b A := by
  obtain ⟨a0, a1, a2, a3, a4, a5, a6, a7, a8, a9, a10⟩ := H
  refine ⟨a0.eq hT hR, a1, ?_, ?_, fun j h1 h2 => ?_, fun j h1 h2 => ?_, fun j h1 h2 => ?_, fun j h1 h2 => ?_, fun j h1 h2 => ?_, fun j h1 h2 => ?_, fun s n h1 h2 h3 h4 => ?_⟩
  · rw [hI b 0 (by omega) (by omega) (by omega)]; exact a2
  · rw [hI b 1 (by omega) (by omega) (by omega)]; exact a3
  · rw [hI (b + 1) j (by omega) (by omega) (by omega)]; exact a4 j h1 h2
  · rw [hI (b + 2) j (by omega) (by omega) (by omega)]; exact a5 j h1 h2
  · rw [hI (b + 3) j (by omega) (by omega) (by omega)]; exact a6 j h1 h2
  · rw [hI (b + 4) j (by omega) (by omega) (by omega)]; exact a7 j h1 h2
  · rw [hI (b + 5) j (by omega) (by omega) (by omega)]; exact a8 j h1 h2
  · rw [hI (b + 6) j (by omega) (by omega) (by omega)]; exact a9 j h1 h2
  · rw [hI (b + 8 + s.toNat) n (by omega) (by omega) (by omega)]; exact a10 s n h1 h2 h3 h4
theorem RC_add {h g : xM} {b : Nat} {A : aS} {s w m : Int} (H : RC h b A) (hp : aPast A) (hW : aW A < 200) (hs : 0 ≤ s ∧ s < 6) (hw : 1 ≤ w ∧ w ≤ 99) (hm : -1 ≤ m ∧ m ≤ 9) (hT : mT g = mT h) (hR : mR g = mR h)
    (h0 : mI g b 0 = aB A) (h1 : mI g b 1 = aW A + 1) (hI : ∀ a j, b < a → a < b + 28 → (a < b + 3 ∨ j ≠ aW A ∨ b + 22 ≤ a) → mI g a j = mI h a j)
    (hv : mI g (b + 3) (aW A) = s ∧ mI g (b + 4) (aW A) = w ∧ mI g (b + 5) (aW A) = m ∧ mI g (b + 6) (aW A) = aB A) (hc : ∀ q, 0 ≤ q → q < 6 → mI g (b + 8 + q.toNat) (aW A) = (if dly A s q = -1 then -1 else aB A + dly A s q) ∧ mI g (b + 15 + q.toNat) (aW A) = -1)
    (hM : ∀ p, 0 ≤ p → p < 60 → mI g (b + 28) p = mI h (b + 28) p + if m ≠ -1 ∧ s * 10 + m = p then 1 else 0) : RC g b (aAdd A s w m) := by
  obtain ⟨⟨a0, a1, a2, a3, a4, a5, a6, a7, a8, a9, a10⟩, a11, a12, a13⟩ := H
  refine ⟨⟨a0.eq hT hR, aAdd_ok a1 hp hW hs hw hm, h0, h1, fun j z1 z2 => ?_, fun j z1 z2 => ?_, fun j z1 z2 => ?_, fun j z1 z2 => ?_, fun j z1 z2 => ?_, fun j z1 z2 => ?_, fun q n z1 z2 z3 z4 => ?_⟩, fun q n z1 z2 z3 z4 => ?_, fun q k z1 z2 z3 z4 => ?_, fun p z1 z2 => ?_⟩
  · rw [hI (b + 1) j (by omega) (by omega) (by omega)]; exact a4 j z1 z2
  · rw [hI (b + 2) j (by omega) (by omega) (by omega)]; exact a5 j z1 z2
  · have z2 : j < aW A + 1 := z2
    show _ = up1 (aSe A) (aW A) s j
    unfold up1
    by_cases e : j = aW A
    · rw [if_pos e, e]; exact hv.1
    · rw [if_neg e, hI (b + 3) j (by omega) (by omega) (by omega)]; exact a6 j z1 (by omega)
  · have z2 : j < aW A + 1 := z2
    show _ = up1 (aWo A) (aW A) w j
    unfold up1
    by_cases e : j = aW A
    · rw [if_pos e, e]; exact hv.2.1
    · rw [if_neg e, hI (b + 4) j (by omega) (by omega) (by omega)]; exact a7 j z1 (by omega)
  · have z2 : j < aW A + 1 := z2
    show _ = up1 (aMa A) (aW A) m j
    unfold up1
    by_cases e : j = aW A
    · rw [if_pos e, e]; exact hv.2.2.1
    · rw [if_neg e, hI (b + 5) j (by omega) (by omega) (by omega)]; exact a8 j z1 (by omega)
  · have z2 : j < aW A + 1 := z2
    show _ = up1 (aAt A) (aW A) (aB A) j
    unfold up1
    by_cases e : j = aW A
    · rw [if_pos e, e]; exact hv.2.2.2
    · rw [if_neg e, hI (b + 6) j (by omega) (by omega) (by omega)]; exact a9 j z1 (by omega)
  · have z4 : n < aW A + 1 := z4
    show _ = if n = aW A then (if dly A s q = -1 then -1 else aB A + dly A s q) else aCo A q n
    by_cases e : n = aW A
    · rw [if_pos e, e]; exact (hc q z1 z2).1
    · rw [if_neg e, hI (b + 8 + q.toNat) n (by omega) (by omega) (by omega)]; exact a10 q n z1 z2 z3 (by omega)
  · have z4 : n < aW A + 1 := z4
    by_cases e : n = aW A
    · rw [e, fh_add_new]; exact (hc q z1 z2).2
    · rw [fh_add_old q n (by omega), hI (b + 15 + q.toNat) n (by omega) (by omega) (by omega)]; exact a11 q n z1 z2 z3 (by omega)
  · rw [hI (b + 22 + q.toNat) k (by omega) (by omega) (by omega)]; exact a12 q k z1 z2 z3 z4
  · rw [hM p z1 z2, msg_add a1, a13 p z1 z2]
theorem aB_rest (A : aS) : ∀ n : Nat, aB (aRest A n) = aB A + n
  | 0 => by show aB A = aB A + (0 : Nat); omega
  | n + 1 => by
    show aB (aRest A n) + 1 = _
    rw [aB_rest A n]
    omega
theorem Fr.of (h : xM) {g : xM} {b : Nat} (h1 : mN g = mN h) (h2 : mT g = mT h) (h3 : mR g = mR h) (h4 : mL g = mL h) (h5 : ∀ a, (a < b ∨ b + 29 ≤ a) → mI g a = mI h a) : Fr h g b := ⟨h1, h2, h3, h4, h5⟩
