/-! ===== the line: now, the saved states, the snapshot, the text ===== -/
abbrev lS : Type := aS × (Int × (Int → aS)) × (Int × aS) × (Int × (Int → Int))
def lA (L : lS) : aS := L.1
def lZ (L : lS) : Int := L.2.1.1
def lSv (L : lS) : Int → aS := L.2.1.2
def lKf (L : lS) : Int := L.2.2.1.1
def lK (L : lS) : aS := L.2.2.1.2
def lTn (L : lS) : Int := L.2.2.2.1
def lTg (L : lS) : Int → Int := L.2.2.2.2
def sA (L : lS) (A : aS) : lS := (A, L.2)
def sSave (L : lS) : lS := (L.1, (psz (lZ L), psh (lZ L) (lSv L) (lA L)), L.2.2)
def sZ (L : lS) (z : Int) : lS := (L.1, (z, lSv L), L.2.2)
def sK (L : lS) : lS := (L.1, L.2.1, (1, L.1), L.2.2.2)
def sTx (L : lS) (n : Int) (g : Int → Int) : lS := (L.1, L.2.1, L.2.2.1, (n, g))
/-- a chamber of which each word was said in a beat that is over -/
def lP (L : lS) : Prop := aPast (lA L) ∧ (∀ i, 0 ≤ i → i < lZ L → aPast (lSv L i)) ∧ (lKf L = 1 → aPast (lK L))
/-- the text at t -/
def TR (h : xM) (t : Nat) (n : Int) (g : Int → Int) : Prop := mI h t 0 = n ∧ (0 ≤ n ∧ n ≤ 60) ∧ ∀ j, 0 ≤ j → j < n → mI h (t + 1) j = g j ∧ (33 ≤ g j ∧ g j ≤ 126)
def KR (h : xM) (x lo : Nat) (f : Int) (K : aS) : Prop := (mR h x 4 = none ∧ f = 0) ∨ ∃ b, f = 1 ∧ mR h x 4 = some b ∧ lo ≤ b ∧ b + 29 ≤ mN h ∧ RC h b K ∧ (∀ i c, 0 ≤ i → i < 6 → mR h (x + 31 + 1) i = some c → c + 29 ≤ b ∨ b + 29 ≤ c)
/-- the class's line at x is L; its chambers but that of now lie from lo on -/
def EL (h : xM) (x lo : Nat) (L : lS) : Prop := ElS h x ∧ RC h (x + 1) (lA L) ∧ HR h (x + 31) lo (lZ L) (lSv L) ∧ KR h x lo (lKf L) (lK L) ∧ TR h (x + 33) (lTn L) (lTg L) ∧ lP L ∧ x + 35 ≤ lo ∧ lo ≤ mN h
/-- what the line leaves alone -/
def EF (h g : xM) (x lo : Nat) : Prop := mN h ≤ mN g ∧ ∀ q, q < lo → (q < x ∨ x + 35 ≤ q) → Sam h g q
theorem EF.rf {h : xM} {x lo : Nat} : EF h h x lo := ⟨Nat.le_refl _, fun _ _ _ => Sam.rf⟩
theorem EF.tr {h g k : xM} {x lo : Nat} (H : EF h g x lo) (H' : EF g k x lo) : EF h k x lo := ⟨Nat.le_trans H.1 H'.1, fun q h1 h2 => (H.2 q h1 h2).tr (H'.2 q h1 h2)⟩
theorem RpS.sam {h g : xM} {a b : Nat} (H : RpS h a b) (hs : Sam h g a) : RpS g a b := ⟨by rw [hs.1]; exact H.1, by rw [hs.2.2.1]; exact H.2⟩
theorem HiS.sam {h g : xM} {a : Nat} (H : HiS h a) (h0 : Sam h g a) (h1 : Sam h g (a + 1)) : HiS g a := ⟨by rw [h0.1]; exact H.1, by rw [h0.2.2.1]; exact H.2.1, by rw [h1.1]; exact H.2.2⟩
theorem TxS.sam {h g : xM} {a : Nat} (H : TxS h a) (h0 : Sam h g a) (h1 : Sam h g (a + 1)) : TxS g a := ⟨by rw [h0.1]; exact H.1, by rw [h0.2.2.1]; exact H.2.1, by rw [h1.1]; exact H.2.2⟩
theorem TR.sam {h g : xM} {a : Nat} {n : Int} {G : Int → Int} (H : TR h a n G) (h0 : Sam h g a) (h1 : Sam h g (a + 1)) : TR g a n G := ⟨by rw [h0.2.1]; exact H.1, H.2.1, by rw [h1.2.1]; exact H.2.2⟩
theorem HR.sam {h g : xM} {a lo : Nat} {z : Int} {Sv : Int → aS} (H : HR h a lo z Sv) (hN : mN h ≤ mN g) (h0 : Sam h g a) (h1 : Sam h g (a + 1)) (hs : ∀ i b, 0 ≤ i → i < 6 → mR h (a + 1) i = some b → ∀ q, b ≤ q → q < b + 29 → Sam h g q) : HR g a lo z Sv := by
  refine ⟨H.1.sam h0 h1, by rw [h0.2.1]; exact H.2.1, H.2.2.1, fun i z1 z2 => ?_, fun i j b b' z1 z2 z3 z4 z5 => ?_⟩
  · rw [h1.2.2.1]
    rcases H.2.2.2.1 i z1 z2 with e | ⟨b, e1, e2, e3, e4, e5⟩
    · exact Or.inl e
    · exact Or.inr ⟨b, e1, e2, by omega, e4.sam (hs i b z1 z2 e1), fun z => (e5 z).sam (hs i b z1 z2 e1)⟩
  · rw [h1.2.2.1] at z4 z5
    exact H.2.2.2.2 i j b b' z1 z2 z3 z4 z5
theorem HR.blk {h : xM} {a lo : Nat} {z : Int} {Sv : Int → aS} (H : HR h a lo z Sv) {i : Int} {b : Nat} (h0 : 0 ≤ i) (h6 : i < 6) (hb : mR h (a + 1) i = some b) : lo ≤ b ∧ b + 29 ≤ mN h ∧ ChS h b := by
  rcases H.2.2.2.1 i h0 h6 with e | ⟨c, e1, e2, e3, e4, e5⟩
  · rw [e.1] at hb; cases hb
  · rw [e1] at hb; cases hb; exact ⟨e2, e3, e4⟩
theorem ElS.sam {h g : xM} {x : Nat} (H : ElS h x) (hT : ∀ q, x ≤ q → q < x + 35 → mT g q = mT h q) (hR : ∀ q j, x ≤ q → q < x + 35 → (q = x → j < 4) → q ≠ x + 32 → mR g q j = mR h q j) : ElS g x := by
  obtain ⟨a0, a1, a2, a3, a4, a5, a6, a7, a8⟩ := H
  refine ⟨?_, ?_, ?_, ?_, ?_, ?_, ⟨?_, ?_⟩, ⟨?_, ?_, ?_⟩, ⟨?_, ?_, ?_⟩⟩
  · rw [hT x (by omega) (by omega)]; exact a0
  · rw [hR x 0 (by omega) (by omega) (by omega) (by omega)]; exact a1
  · rw [hR x 1 (by omega) (by omega) (by omega) (by omega)]; exact a2
  · rw [hR x 2 (by omega) (by omega) (by omega) (by omega)]; exact a3
  · rw [hR x 3 (by omega) (by omega) (by omega) (by omega)]; exact a4
  · exact a5.of (fun q z1 z2 => hT q (by omega) (by omega)) (fun q z1 z2 => funext fun j => hR q j (by omega) (by omega) (by omega) (by omega))
  · rw [hT (x + 30) (by omega) (by omega)]; exact a6.1
  · rw [hR (x + 30) 0 (by omega) (by omega) (by omega) (by omega)]; exact a6.2
  · rw [hT (x + 31) (by omega) (by omega)]; exact a7.1
  · rw [hR (x + 31) 1 (by omega) (by omega) (by omega) (by omega)]; exact a7.2.1
  · rw [hT (x + 31 + 1) (by omega) (by omega)]; exact a7.2.2
  · rw [hT (x + 33) (by omega) (by omega)]; exact a8.1
  · rw [hR (x + 33) 1 (by omega) (by omega) (by omega) (by omega)]; exact a8.2.1
  · rw [hT (x + 33 + 1) (by omega) (by omega)]; exact a8.2.2
/-- only the next address is another -/
theorem EL.up {h g : xM} {x lo : Nat} {L : lS} (H : EL h x lo L) (hN : mN h ≤ mN g) (hs : ∀ q, q < mN h → Sam h g q) : EL g x lo L ∧ EF h g x lo := by
  obtain ⟨a1, a2, a3, a4, a5, a6, a7, a8⟩ := H
  refine ⟨⟨a1.sam (fun q z1 z2 => (hs q (by omega)).1) (fun q j z1 z2 _ _ => by rw [(hs q (by omega)).2.2.1]), a2.sam (fun q z1 z2 => hs q (by omega)), a3.sam hN (hs _ (by omega)) (hs _ (by omega)) (fun i b z1 z2 z3 q z4 z5 => hs q (by have := (a3.blk z1 z2 z3).2.1; omega)), ?_, a5.sam (hs _ (by omega)) (hs _ (by omega)), a6, a7, by omega⟩, ⟨hN, fun q z1 z2 => hs q (by omega)⟩⟩
  unfold KR
  rw [(hs x (by omega)).2.2.1]
  rcases a4 with e | ⟨b, e1, e2, e3, e4, e5, e6⟩
  · exact Or.inl e
  · refine Or.inr ⟨b, e1, e2, e3, by omega, e5.sam (fun q z1 z2 => hs q (by omega)), ?_⟩
    rw [(hs (x + 31 + 1) (by omega)).2.2.1]
    exact e6
/-- the state of now was saved -/
theorem EL.save {h g : xM} {x lo : Nat} {L : lS} (H : EL h x lo L) (hH : HR g (x + 31) lo (psz (lZ L)) (psh (lZ L) (lSv L) (lA L))) (hF : HF h g (x + 31)) : EL g x lo (sSave L) ∧ EF h g x lo := by
  obtain ⟨a1, a2, a3, a4, a5, a6, a7, a8⟩ := H
  have hs : ∀ q, q < lo → q ≠ x + 31 → q ≠ x + 32 → Sam h g q := fun q z1 z2 z3 => hF.2.1 q (by omega) z2 z3 (fun i b y1 y2 y3 => Or.inl (by have := (a3.blk y1 y2 y3).1; omega))
  have hHi := hH.1
  refine ⟨⟨?_, a2.sam (fun q z1 z2 => hs q (by omega) (by omega) (by omega)), hH, ?_, a5.sam (hs _ (by omega) (by omega) (by omega)) (hs _ (by omega) (by omega) (by omega)), ⟨a6.1, fun i z1 z2 => ?_, a6.2.2⟩, a7, by have := hF.1; omega⟩, ⟨hF.1, fun q z1 z2 => hs q z1 (by omega) (by omega)⟩⟩
  · obtain ⟨b0, b1, b2, b3, b4, b5, b6, b7, b8⟩ := a1
    have hx := hs x (by omega) (by omega) (by omega)
    exact ⟨by rw [hx.1]; exact b0, by rw [hx.2.2.1]; exact b1, by rw [hx.2.2.1]; exact b2, by rw [hx.2.2.1]; exact b3, by rw [hx.2.2.1]; exact b4, b5.sam (fun q z1 z2 => hs q (by omega) (by omega) (by omega)), b6.sam (hs _ (by omega) (by omega) (by omega)), hHi, b8.sam (hs _ (by omega) (by omega) (by omega)) (hs _ (by omega) (by omega) (by omega))⟩
  · have hx := hs x (by omega) (by omega) (by omega)
    show KR g x lo (lKf L) (lK L)
    unfold KR
    rw [hx.2.2.1]
    rcases a4 with e | ⟨b, e1, e2, e3, e4, e5, e6⟩
    · exact Or.inl e
    · refine Or.inr ⟨b, e1, e2, e3, by have := hF.1; omega, e5.sam (fun q z1 z2 => hF.2.1 q (by omega) (by omega) (by omega) (fun i c y1 y2 y3 => by have := e6 i c y1 y2 y3; omega)), fun i c z1 z2 z3 => ?_⟩
      rcases hF.2.2 i c z1 z2 z3 with e | ⟨j, y1, y2, y3⟩
      · exact Or.inr (by omega)
      · exact e6 j c y1 y2 y3
  · have z2 : i < psz (lZ L) := z2
    have hz := a3.2.2.1
    show aPast (psh (lZ L) (lSv L) (lA L) i)
    unfold psh
    by_cases e1 : i = psz (lZ L) - 1
    · rw [if_pos e1]; exact a6.1
    · rw [if_neg e1]
      unfold psz at e1 z2
      by_cases e2 : lZ L = 6
      · rw [if_pos e2]; rw [if_pos e2] at e1 z2; exact a6.2.1 (i + 1) (by omega) (by omega)
      · rw [if_neg e2]; rw [if_neg e2] at e1 z2; exact a6.2.1 i z1 (by omega)
/-- the chamber of now is another -/
theorem EL.now {h g : xM} {x lo : Nat} {L : lS} {A : aS} (H : EL h x lo L) (hA : RC g (x + 1) A) (hF : Fr h g (x + 1)) (hp : aPast A) : EL g x lo (sA L A) ∧ EF h g x lo := by
  obtain ⟨a1, a2, a3, a4, a5, a6, a7, a8⟩ := H
  have hs : ∀ q, (q < x + 1 ∨ x + 30 ≤ q) → Sam h g q := fun q z => hF.sam (by omega)
  refine ⟨⟨a1.sam (fun q _ _ => by rw [hF.2.1]) (fun q j _ _ _ _ => by rw [hF.2.2.1]), hA, a3.sam (Nat.le_of_eq hF.1.symm) (hs _ (by omega)) (hs _ (by omega)) (fun i b z1 z2 z3 q z4 z5 => hs q (by have := (a3.blk z1 z2 z3).1; omega)), ?_, a5.sam (hs _ (by omega)) (hs _ (by omega)), ⟨hp, a6.2⟩, a7, by rw [hF.1]; exact a8⟩, ⟨Nat.le_of_eq hF.1.symm, fun q z1 z2 => hs q (by omega)⟩⟩
  show KR g x lo (lKf L) (lK L)
  unfold KR
  rw [hF.2.2.1, hF.1]
  rcases a4 with e | ⟨b, e1, e2, e3, e4, e5, e6⟩
  · exact Or.inl e
  · exact Or.inr ⟨b, e1, e2, e3, e4, e5.sam (fun q z1 z2 => hs q (by omega)), e6⟩
/-- the text is another -/
theorem EL.text {h g : xM} {x lo : Nat} {L : lS} {n : Int} {G : Int → Int} (H : EL h x lo L) (hN : mN g = mN h) (hT : mT g = mT h) (hR : mR g = mR h) (hL : mL g = mL h) (hI : ∀ q, q ≠ x + 33 → q ≠ x + 34 → mI g q = mI h q) (ht : TR g (x + 33) n G) : EL g x lo (sTx L n G) ∧ EF h g x lo := by
  obtain ⟨a1, a2, a3, a4, a5, a6, a7, a8⟩ := H
  have hs : ∀ q, q ≠ x + 33 → q ≠ x + 34 → Sam h g q := fun q z1 z2 => ⟨by rw [hT], hI q z1 z2, by rw [hR], by rw [hL]⟩
  refine ⟨⟨a1.sam (fun q _ _ => by rw [hT]) (fun q j _ _ _ _ => by rw [hR]), a2.sam (fun q z1 z2 => hs q (by omega) (by omega)), a3.sam (Nat.le_of_eq hN.symm) (hs _ (by omega) (by omega)) (hs _ (by omega) (by omega)) (fun i b z1 z2 z3 q z4 z5 => hs q (by have := (a3.blk z1 z2 z3).1; omega) (by have := (a3.blk z1 z2 z3).1; omega)), ?_, ht, a6, a7, by rw [hN]; exact a8⟩, ⟨Nat.le_of_eq hN.symm, fun q z1 z2 => hs q (by omega) (by omega)⟩⟩
  show KR g x lo (lKf L) (lK L)
  unfold KR
  rw [hR, hN]
  rcases a4 with e | ⟨b, e1, e2, e3, e4, e5, e6⟩
  · exact Or.inl e
  · exact Or.inr ⟨b, e1, e2, e3, e4, e5.sam (fun q z1 z2 => hs q (by omega) (by omega)), e6⟩
/-- fewer states are saved -/
theorem EL.drop {h g : xM} {x lo : Nat} {L : lS} {z : Int} (H : EL h x lo L) (hz : 0 ≤ z ∧ z ≤ lZ L) (hN : mN g = mN h) (hT : mT g = mT h) (hR : mR g = mR h) (hL : mL g = mL h) (hI : ∀ q j, mI g q j = if q = x + 31 ∧ j = 0 then z else mI h q j) : EL g x lo (sZ L z) ∧ EF h g x lo := by
  obtain ⟨a1, a2, a3, a4, a5, a6, a7, a8⟩ := H
  have hs : ∀ q, q ≠ x + 31 → Sam h g q := fun q z1 => ⟨by rw [hT], funext fun j => by rw [hI, if_neg (fun y => z1 y.1)], by rw [hR], by rw [hL]⟩
  have hz6 := a3.2.2.1
  refine ⟨⟨a1.sam (fun q _ _ => by rw [hT]) (fun q j _ _ _ _ => by rw [hR]), a2.sam (fun q z1 z2 => hs q (by omega)), ⟨⟨by rw [hT]; exact a3.1.1, by rw [hR]; exact a3.1.2.1, by rw [hT]; exact a3.1.2.2⟩, by rw [hI, if_pos ⟨rfl, rfl⟩]; rfl, ⟨hz.1, by show z ≤ 6; omega⟩, fun i z1 z2 => ?_, ?_⟩, ?_, a5.sam (hs _ (by omega)) (hs _ (by omega)), ⟨a6.1, fun i z1 z2 => a6.2.1 i z1 (by have z2 : i < z := z2; omega), a6.2.2⟩, a7, by rw [hN]; exact a8⟩, ⟨Nat.le_of_eq hN.symm, fun q z1 z2 => hs q (by omega)⟩⟩
  · rw [hR, hN]
    show (_ ∧ z ≤ i) ∨ _
    rcases a3.2.2.2.1 i z1 z2 with e | ⟨b, e1, e2, e3, e4, e5⟩
    · exact Or.inl ⟨e.1, by omega⟩
    · exact Or.inr ⟨b, e1, e2, e3, e4.sam (fun q y1 y2 => hs q (by omega)), fun y => (e5 (by have y : i < z := y; omega)).sam (fun q y1 y2 => hs q (by omega))⟩
  · rw [hR]; exact a3.2.2.2.2
  · show KR g x lo (lKf L) (lK L)
    unfold KR
    rw [hR, hN]
    rcases a4 with e | ⟨b, e1, e2, e3, e4, e5, e6⟩
    · exact Or.inl e
    · exact Or.inr ⟨b, e1, e2, e3, e4, e5.sam (fun q z1 z2 => hs q (by omega)), e6⟩
theorem gN_sam {h : xM} {n q : Nat} : Sam h (gN h n) q := ⟨rfl, rfl, rfl, rfl⟩
theorem EL.gN {h : xM} {x lo n : Nat} {L : lS} (H : EL h x lo L) (hn : mN h ≤ n) : EL (gN h n) x lo L ∧ EF h (gN h n) x lo := H.up hn (fun q _ => gN_sam)
/-! that words were said in the past stays so -/
theorem aPast_new : aPast aNew := fun n h1 h2 => by
  have h2 : n < 0 := h2
  omega
