/-! ===== walls, settings, the snapshot ===== -/
def aSWl (A : aS) (s k : Int) : aS := (aB A, aW A, fun j => if j = s then k else aWl A j, A.2.2.2)
def aSSt (A : aS) (s k : Int) : aS := (aB A, aW A, aWl A, fun j => if j = s then k else aSt A j, A.2.2.2.2)
theorem RC_wl {h g : xM} {b : Nat} {A : aS} {s k : Int} (H : RC h b A) (hk : 0 ≤ k ∧ k ≤ 3) (hT : mT g = mT h) (hR : mR g = mR h) (hI : ∀ c j, mI g c j = if c = b + 1 ∧ j = s then k else mI h c j) : RC g b (aSWl A s k) := by
  obtain ⟨⟨a0, a1, a2, a3, a4, a5, a6, a7, a8, a9, a10⟩, c1, c2, c3⟩ := H
  have hI2 : ∀ c, c ≠ b + 1 → mI g c = mI h c := fun c hc => funext fun j => by rw [hI, if_neg (fun z => hc z.1)]
  refine ⟨⟨a0.eq hT hR, ⟨a1.1, a1.2.1, fun j h1 h2 => ?_, a1.2.2.2⟩, ?_, ?_, fun j h1 h2 => ?_, ?_, ?_, ?_, ?_, ?_, fun s n h1 h2 => ?_⟩, fun s n h1 h2 => ?_, fun s n h1 h2 => ?_, ?_⟩
  · show 0 ≤ (if j = s then k else aWl A j) ∧ (if j = s then k else aWl A j) ≤ 3
    have := a1.2.2.1 j h1 h2
    split <;> omega
  · rw [hI2 b (by omega)]; exact a2
  · rw [hI2 b (by omega)]; exact a3
  · rw [hI]
    show _ = if j = s then k else aWl A j
    by_cases e : j = s
    · rw [if_pos ⟨rfl, e⟩, if_pos e]
    · rw [if_neg (fun z => e z.2), if_neg e]; exact a4 j h1 h2
  · rw [hI2 (b + 2) (by omega)]; exact a5
  · rw [hI2 (b + 3) (by omega)]; exact a6
  · rw [hI2 (b + 4) (by omega)]; exact a7
  · rw [hI2 (b + 5) (by omega)]; exact a8
  · rw [hI2 (b + 6) (by omega)]; exact a9
  · rw [hI2 (b + 8 + s.toNat) (by omega)]; exact a10 s n h1 h2
  · rw [hI2 (b + 15 + s.toNat) (by omega)]; exact c1 s n h1 h2
  · rw [hI2 (b + 22 + s.toNat) (by omega)]; exact c2 s n h1 h2
  · rw [hI2 (b + 28) (by omega)]; exact c3
def stOK (s k : Int) : Prop := (s = 0 ∧ 0 ≤ k ∧ k ≤ 5) ∨ (s = 1 ∧ 0 ≤ k ∧ k ≤ 4) ∨ (s = 2 ∧ 1 ≤ k ∧ k ≤ 50)
theorem RC_st {h g : xM} {b : Nat} {A : aS} {s k : Int} (H : RC h b A) (hk : stOK s k) (hT : mT g = mT h) (hR : mR g = mR h) (hI : ∀ c j, mI g c j = if c = b + 2 ∧ j = s then k else mI h c j) : RC g b (aSSt A s k) := by
  obtain ⟨⟨a0, a1, a2, a3, a4, a5, a6, a7, a8, a9, a10⟩, c1, c2, c3⟩ := H
  have hI2 : ∀ c, c ≠ b + 2 → mI g c = mI h c := fun c hc => funext fun j => by rw [hI, if_neg (fun z => hc z.1)]
  refine ⟨⟨a0.eq hT hR, ⟨a1.1, a1.2.1, a1.2.2.1, ?_, a1.2.2.2.2⟩, ?_, ?_, ?_, fun j h1 h2 => ?_, ?_, ?_, ?_, ?_, fun s n h1 h2 => ?_⟩, fun s n h1 h2 => ?_, fun s n h1 h2 => ?_, ?_⟩
  · show (0 ≤ (if (0 : Int) = s then k else aSt A 0) ∧ (if (0 : Int) = s then k else aSt A 0) ≤ 5) ∧ (0 ≤ (if (1 : Int) = s then k else aSt A 1) ∧ (if (1 : Int) = s then k else aSt A 1) ≤ 4) ∧ (1 ≤ (if (2 : Int) = s then k else aSt A 2) ∧ (if (2 : Int) = s then k else aSt A 2) ≤ 50)
    have := a1.2.2.2.1
    unfold stOK at hk
    omega
  · rw [hI2 b (by omega)]; exact a2
  · rw [hI2 b (by omega)]; exact a3
  · rw [hI2 (b + 1) (by omega)]; exact a4
  · rw [hI]
    show _ = if j = s then k else aSt A j
    by_cases e : j = s
    · rw [if_pos ⟨rfl, e⟩, if_pos e]
    · rw [if_neg (fun z => e z.2), if_neg e]; exact a5 j h1 h2
  · rw [hI2 (b + 3) (by omega)]; exact a6
  · rw [hI2 (b + 4) (by omega)]; exact a7
  · rw [hI2 (b + 5) (by omega)]; exact a8
  · rw [hI2 (b + 6) (by omega)]; exact a9
  · rw [hI2 (b + 8 + s.toNat) (by omega)]; exact a10 s n h1 h2
  · rw [hI2 (b + 15 + s.toNat) (by omega)]; exact c1 s n h1 h2
  · rw [hI2 (b + 22 + s.toNat) (by omega)]; exact c2 s n h1 h2
  · rw [hI2 (b + 28) (by omega)]; exact c3
theorem EL.kp {h k : xM} {x lo b : Nat} {L : lS} (H : EL h x lo L) (hN : mN h ≤ mN k) (hs : ∀ q, q < mN h → q ≠ x → (q < b ∨ b + 29 ≤ q) → Sam h k q) (hx : mT k x = mT h x ∧ (∀ j, j ≠ 4 → mR k x j = mR h x j) ∧ mR k x 4 = some b) (hb : lo ≤ b ∧ b + 29 ≤ mN k)
    (hd : ∀ i c, 0 ≤ i → i < 6 → mR h (x + 31 + 1) i = some c → c + 29 ≤ b ∨ b + 29 ≤ c) (hA : RC k b (lA L)) : EL k x lo (sK L) ∧ EF h k x lo := by
  obtain ⟨a1, a2, a3, a4, a5, a6, a7, a8⟩ := H
  have hs2 : ∀ q, x < q → q < lo → Sam h k q := fun q z1 z2 => hs q (by omega) (by omega) (by omega)
  refine ⟨⟨a1.sam (fun q z1 z2 => ?_) (fun q j z1 z2 z3 z4 => ?_), a2.sam (fun q z1 z2 => hs2 q (by omega) (by omega)), a3.sam hN (hs2 _ (by omega) (by omega)) (hs2 _ (by omega) (by omega)) (fun i c z1 z2 z3 q z4 z5 => ?_), Or.inr ⟨b, rfl, hx.2.2, hb.1, hb.2, hA, fun i c z1 z2 z3 => ?_⟩, a5.sam (hs2 _ (by omega) (by omega)) (hs2 _ (by omega) (by omega)), ⟨a6.1, a6.2.1, fun _ => a6.1⟩, a7, by omega⟩, ⟨hN, fun q z1 z2 => hs q (by omega) (by omega) (by omega)⟩⟩
  · by_cases e : q = x
    · rw [e]; exact hx.1
    · exact (hs2 q (by omega) (by omega)).1
  · by_cases e : q = x
    · rw [e]; exact hx.2.1 j (by have := z3 e; omega)
    · rw [(hs2 q (by omega) (by omega)).2.2.1]
  · have y1 := a3.blk z1 z2 z3
    have y2 := hd i c z1 z2 z3
    exact hs q (by omega) (by omega) (by omega)
  · rw [(hs2 (x + 31 + 1) (by omega) (by omega)).2.2.1] at z3
    exact hd i c z1 z2 z3
theorem aPast_rest {A : aS} (hA : aOK A) (hp : aPast A) : ∀ n : Nat, aB A + n ≤ 400 → aPast (aRest A n) ∧ aOK (aRest A n)
  | 0, _ => ⟨hp, hA⟩
  | n + 1, h => by
    have := aPast_rest hA hp n (by omega)
    exact ⟨aEnd_past this.2, aEnd_ok this.2 (by rw [aB_rest]; omega)⟩
/-! what a look, a change is: with what is thrown -/
def xIO : String := "java/lang/IndexOutOfBoundsException"
def xIA : String := "java/lang/IllegalArgumentException"
def xIS : String := "java/lang/IllegalStateException"
def up3 (E : String) (h h' : xM) : Prop := ∃ n, mN h ≤ n ∧ h' = gN h n
/-- thrown: the first, the second, the third is not so -/
def PX3 (p q r : Prop) (x y z : String) (h : xM) (E : String) (h' : xM) : Prop := (∃ n, mN h ≤ n ∧ h' = gN h n) ∧ ((¬ p ∧ E = x) ∨ (p ∧ ¬ q ∧ E = y) ∨ (p ∧ q ∧ ¬ r ∧ E = z))
