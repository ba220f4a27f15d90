/-! ===== the saved states ===== -/
def Sam (h g : xM) (a : Nat) : Prop := mT g a = mT h a ∧ mI g a = mI h a ∧ mR g a = mR h a ∧ mL g a = mL h a
theorem Sam.rf {h : xM} {a : Nat} : Sam h h a := ⟨rfl, rfl, rfl, rfl⟩
theorem Sam.tr {h g k : xM} {a : Nat} (H : Sam h g a) (H' : Sam g k a) : Sam h k a := ⟨H'.1.trans H.1, H'.2.1.trans H.2.1, H'.2.2.1.trans H.2.2.1, H'.2.2.2.trans H.2.2.2⟩
theorem ChS.sam {h g : xM} {b : Nat} (H : ChS h b) (hs : ∀ a, b ≤ a → a < b + 29 → Sam h g a) : ChS g b := H.of (fun a h1 h2 => (hs a h1 h2).1) (fun a h1 h2 => (hs a h1 h2).2.2.1)
theorem RC.sam {h g : xM} {b : Nat} {A : aS} (H : RC h b A) (hs : ∀ a, b ≤ a → a < b + 29 → Sam h g a) : RC g b A := by
  obtain ⟨⟨a0, a1, a2, a3, a4, a5, a6, a7, a8, a9, a10⟩, c1, c2, c3⟩ := H
  have hI : ∀ a, b ≤ a → a < b + 29 → mI g a = mI h a := fun a h1 h2 => (hs a h1 h2).2.1
  refine ⟨⟨a0.sam hs, a1, ?_, ?_, ?_, ?_, ?_, ?_, ?_, ?_, fun s n h1 h2 => ?_⟩, fun s n h1 h2 => ?_, fun s n h1 h2 => ?_, ?_⟩
  · rw [hI b (by omega) (by omega)]; exact a2
  · rw [hI b (by omega) (by omega)]; exact a3
  · rw [hI (b + 1) (by omega) (by omega)]; exact a4
  · rw [hI (b + 2) (by omega) (by omega)]; exact a5
  · rw [hI (b + 3) (by omega) (by omega)]; exact a6
  · rw [hI (b + 4) (by omega) (by omega)]; exact a7
  · rw [hI (b + 5) (by omega) (by omega)]; exact a8
  · rw [hI (b + 6) (by omega) (by omega)]; exact a9
  · rw [hI (b + 8 + s.toNat) (by omega) (by omega)]; exact a10 s n h1 h2
  · rw [hI (b + 15 + s.toNat) (by omega) (by omega)]; exact c1 s n h1 h2
  · rw [hI (b + 22 + s.toNat) (by omega) (by omega)]; exact c2 s n h1 h2
  · rw [hI (b + 28) (by omega) (by omega)]; exact c3
theorem Fr.sam {h g : xM} {b a : Nat} (H : Fr h g b) (ha : a < b ∨ b + 29 ≤ a) : Sam h g a := ⟨by rw [H.2.1], H.2.2.2.2 a ha, by rw [H.2.2.1], by rw [H.2.2.2.1]⟩
theorem NewS.sam {h g : xM} {b n a : Nat} (H : NewS h g b n) (ha : a < b ∨ b + n ≤ a) : Sam h g a := H.2 a ha
/-- the history at a: z saved states; its chambers lie from lo on -/
def HR (h : xM) (a lo : Nat) (z : Int) (Sv : Int → aS) : Prop := HiS h a ∧ mI h a 0 = z ∧ (0 ≤ z ∧ z ≤ 6) ∧
  (∀ i, 0 ≤ i → i < 6 → (mR h (a + 1) i = none ∧ z ≤ i) ∨ ∃ b, mR h (a + 1) i = some b ∧ lo ≤ b ∧ b + 29 ≤ mN h ∧ ChS h b ∧ (i < z → RC h b (Sv i))) ∧
  (∀ i j b b', 0 ≤ i → i < j → j < 6 → mR h (a + 1) i = some b → mR h (a + 1) j = some b' → b + 29 ≤ b' ∨ b' + 29 ≤ b)
/-- what changes of a history leaves alone -/
def HF (h g : xM) (a : Nat) : Prop := mN h ≤ mN g ∧ (∀ q, q < mN h → q ≠ a → q ≠ a + 1 → (∀ i b, 0 ≤ i → i < 6 → mR h (a + 1) i = some b → q < b ∨ b + 29 ≤ q) → Sam h g q) ∧
  (∀ i b, 0 ≤ i → i < 6 → mR g (a + 1) i = some b → mN h ≤ b ∨ ∃ j, 0 ≤ j ∧ j < 6 ∧ mR h (a + 1) j = some b)
theorem HF.rf {h : xM} {a : Nat} : HF h h a := ⟨Nat.le_refl _, fun _ _ _ _ _ => Sam.rf, fun i b h1 h2 h3 => Or.inr ⟨i, h1, h2, h3⟩⟩
theorem HF.tr {h g k : xM} {a : Nat} (H : HF h g a) (H' : HF g k a) : HF h k a := by
  refine ⟨Nat.le_trans H.1 H'.1, fun q h1 h2 h3 h4 => (H.2.1 q h1 h2 h3 h4).tr (H'.2.1 q (by have := H.1; omega) h2 h3 fun i b z1 z2 z3 => ?_), fun i b z1 z2 z3 => ?_⟩
  · rcases H.2.2 i b z1 z2 z3 with e | ⟨j, e1, e2, e3⟩
    · omega
    · exact h4 j b e1 e2 e3
  · rcases H'.2.2 i b z1 z2 z3 with e | ⟨j, e1, e2, e3⟩
    · exact Or.inl (by have := H.1; omega)
    · exact H.2.2 j b e1 e2 e3
/-- a reference of a history, and one that is not the same -/
theorem HR.dis {h : xM} {a lo : Nat} {z : Int} {Sv : Int → aS} (H : HR h a lo z Sv) {i j : Int} {b b' : Nat} (hi : 0 ≤ i ∧ i < 6) (hj : 0 ≤ j ∧ j < 6) (hn : i ≠ j) (h1 : mR h (a + 1) i = some b) (h2 : mR h (a + 1) j = some b') : b + 29 ≤ b' ∨ b' + 29 ≤ b := by
  by_cases e : i < j
  · exact H.2.2.2.2 i j b b' hi.1 e hj.2 h1 h2
  · exact (H.2.2.2.2 j i b' b hj.1 (by omega) hi.2 h2 h1).symm
/-- the oldest is dropped -/
def hDr (h g : xM) (a : Nat) : Prop := mN g = mN h ∧ mT g = mT h ∧ mL g = mL h ∧ (∀ c j, mI g c j = if c = a ∧ j = 0 then 5 else mI h c j) ∧ (∀ c j, mR g c j = if c = a + 1 ∧ 0 ≤ j ∧ j < 6 then (if j < 5 then mR h (a + 1) (j + 1) else mR h (a + 1) 0) else mR h c j)
theorem hDr.sam {h g : xM} {a q : Nat} (H : hDr h g a) (h1 : q ≠ a) (h2 : q ≠ a + 1) : Sam h g q := ⟨by rw [H.2.1], funext fun j => by rw [H.2.2.2.1, if_neg (fun z => h1 z.1)], funext fun j => by rw [H.2.2.2.2, if_neg (fun z => h2 z.1)], by rw [H.2.2.1]⟩
theorem hDr.ref {h g : xM} {a : Nat} (H : hDr h g a) (i : Int) (h0 : 0 ≤ i) (h6 : i < 6) : ∃ j, 0 ≤ j ∧ j < 6 ∧ mR g (a + 1) i = mR h (a + 1) j ∧ (j = i + 1 ∨ (j = 0 ∧ i = 5)) := by
  have := H.2.2.2.2 (a + 1) i
  rw [if_pos ⟨rfl, h0, h6⟩] at this
  by_cases e : i < 5
  · rw [if_pos e] at this
    exact ⟨i + 1, by omega, by omega, this, by omega⟩
  · rw [if_neg e] at this
    exact ⟨0, by omega, by omega, this, by omega⟩
theorem HR_drop {h g : xM} {a lo : Nat} {Sv : Int → aS} (H : HR h a lo 6 Sv) (hd : hDr h g a) (ha : a + 2 ≤ lo) : HR g a lo 5 (fun i => Sv (i + 1)) ∧ HF h g a := by
  refine ⟨⟨⟨?_, ?_, ?_⟩, ?_, ⟨by decide, by decide⟩, fun i h1 h2 => ?_, fun i j b b' h1 h2 h3 h4 h5 => ?_⟩, ⟨Nat.le_of_eq hd.1.symm, fun q h1 h2 h3 _ => hd.sam h2 h3, fun i b h1 h2 h3 => ?_⟩⟩
  · rw [hd.2.1]; exact H.1.1
  · rw [hd.2.2.2.2, if_neg (by omega)]; exact H.1.2.1
  · rw [hd.2.1]; exact H.1.2.2
  · rw [hd.2.2.2.1, if_pos ⟨rfl, rfl⟩]
  · obtain ⟨j, j0, j6, e, ej⟩ := hd.ref i h1 h2
    rcases H.2.2.2.1 j j0 j6 with ⟨e1, e2⟩ | ⟨b, e1, e2, e3, e4, e5⟩
    · omega
    · refine Or.inr ⟨b, e.trans e1, e2, by rw [hd.1]; exact e3, e4.sam (fun q z1 z2 => hd.sam (by omega) (by omega)), fun z => ?_⟩
      have e6 := e5 (by omega)
      rw [show j = i + 1 by omega] at e6
      exact e6.sam (fun q z1 z2 => hd.sam (by omega) (by omega))
  · obtain ⟨k, k0, k6, e, ek⟩ := hd.ref i h1 (by omega)
    obtain ⟨l, l0, l6, f, fl⟩ := hd.ref j (by omega) h3
    exact H.dis ⟨k0, k6⟩ ⟨l0, l6⟩ (by omega) (e.symm.trans h4) (f.symm.trans h5)
  · obtain ⟨j, j0, j6, e, ej⟩ := hd.ref i h1 h2
    exact Or.inr ⟨j, j0, j6, e.symm.trans h3⟩
/-- a new chamber in a place -/
theorem HR_new {h g k : xM} {a lo : Nat} {z i : Int} {Sv : Int → aS} (H : HR h a lo z Sv) (hi : 0 ≤ i ∧ i < 6) (hz : z ≤ i) (hn : NewS h g (mN h) 29) (hC : ChS g (mN h)) (ha : a + 2 ≤ lo) (hlo : lo ≤ mN h) (hk : mN k = mN g ∧ mT k = mT g ∧ mI k = mI g ∧ mL k = mL g) (hR : ∀ c j, mR k c j = if c = a + 1 ∧ j = i then some (mN h) else mR g c j) (h0 : mR h (a + 1) i = none) : HR k a lo z Sv ∧ HF h k a := by
  have hs : ∀ q, q < mN h → q ≠ a + 1 → Sam h k q := fun q h1 h2 => by
    have := hn.sam (a := q) (Or.inl h1)
    exact ⟨by rw [hk.2.1]; exact this.1, by rw [hk.2.2.1]; exact this.2.1, funext fun j => by rw [hR, if_neg (fun z => h2 z.1), this.2.2.1], by rw [hk.2.2.2]; exact this.2.2.2⟩
  have hr : ∀ j, j ≠ i → mR k (a + 1) j = mR h (a + 1) j := fun j hj => by rw [hR, if_neg (fun z => hj z.2), (hn.sam (a := a + 1) (by omega)).2.2.1]
  have hri : mR k (a + 1) i = some (mN h) := by rw [hR, if_pos ⟨rfl, rfl⟩]
  have hN : mN k = mN h + 29 := hk.1.trans hn.1
  refine ⟨⟨⟨?_, ?_, ?_⟩, ?_, H.2.2.1, fun j h1 h2 => ?_, fun j l b b' h1 h2 h3 h4 h5 => ?_⟩, ⟨by omega, fun q h1 h2 h3 _ => hs q h1 h3, fun j b h1 h2 h3 => ?_⟩⟩
  · rw [(hs a (by omega) (by omega)).1]; exact H.1.1
  · rw [(hs a (by omega) (by omega)).2.2.1]; exact H.1.2.1
  · rw [hk.2.1, (hn.sam (a := a + 1) (by omega)).1]; exact H.1.2.2
  · rw [(hs a (by omega) (by omega)).2.1]; exact H.2.1
  · by_cases e : j = i
    · refine Or.inr ⟨mN h, by rw [e]; exact hri, hlo, by omega, hC.of (fun q _ _ => by rw [hk.2.1]) (fun q z1 z2 => funext fun l => by rw [hR, if_neg (by omega)]), fun z => by omega⟩
    · rw [hr j e]
      rcases H.2.2.2.1 j h1 h2 with e1 | ⟨b, e1, e2, e3, e4, e5⟩
      · exact Or.inl e1
      · exact Or.inr ⟨b, e1, e2, by omega, e4.sam (fun q z1 z2 => hs q (by omega) (by omega)), fun z => (e5 z).sam (fun q z1 z2 => hs q (by omega) (by omega))⟩
  · have hb : ∀ t c, 0 ≤ t → t < 6 → t ≠ i → mR k (a + 1) t = some c → c + 29 ≤ mN h ∧ mR h (a + 1) t = some c := fun t c t0 t6 ti tc => by
      rw [hr t ti] at tc
      rcases H.2.2.2.1 t t0 t6 with e1 | ⟨b, e1, e2, e3, e4, e5⟩
      · rw [e1.1] at tc; cases tc
      · rw [e1] at tc; cases tc; exact ⟨e3, e1⟩
    by_cases e : j = i
    · have q1 := hb l b' (by omega) h3 (by omega) h5
      rw [e, hri] at h4; cases h4
      exact Or.inr q1.1
    · have q1 := hb j b h1 (by omega) e h4
      by_cases e2 : l = i
      · rw [e2, hri] at h5; cases h5
        exact Or.inl q1.1
      · exact H.2.2.2.2 j l b b' h1 h2 h3 q1.2 (hb l b' (by omega) h3 e2 h5).2
  · by_cases e : j = i
    · rw [e, hri] at h3; cases h3; exact Or.inl (Nat.le_refl _)
    · rw [hr j e] at h3; exact Or.inr ⟨j, h1, h2, h3⟩
/-- the next place takes a state -/
theorem HR_put {h g k : xM} {a lo b : Nat} {z : Int} {Sv Sw : Int → aS} {A : aS} (H : HR h a lo z Sv) (hz : z < 6) (hb : mR h (a + 1) z = some b) (hF : Fr h g b) (hA : RC g b A) (ha : a + 2 ≤ lo) (hk : mN k = mN g ∧ mT k = mT g ∧ mR k = mR g ∧ mL k = mL g) (hI : ∀ c j, mI k c j = if c = a ∧ j = 0 then z + 1 else mI g c j) (hS : ∀ i, 0 ≤ i → i < z → Sw i = Sv i) (hSz : Sw z = A) : HR k a lo (z + 1) Sw ∧ HF h k a := by
  have hz0 := H.2.2.1
  have hlb : lo ≤ b ∧ b + 29 ≤ mN h := by
    rcases H.2.2.2.1 z hz0.1 hz with e1 | ⟨c, e1, e2, e3, e4, e5⟩
    · rw [e1.1] at hb; cases hb
    · rw [e1] at hb; cases hb; exact ⟨e2, e3⟩
  have hs : ∀ q, q ≠ a → (q < b ∨ b + 29 ≤ q) → Sam h k q := fun q h1 h2 => by
    have := hF.sam h2
    exact ⟨by rw [hk.2.1]; exact this.1, funext fun j => by rw [hI, if_neg (fun z => h1 z.1), this.2.1], by rw [hk.2.2.1]; exact this.2.2.1, by rw [hk.2.2.2]; exact this.2.2.2⟩
  have hr : mR k = mR h := hk.2.2.1.trans hF.2.2.1
  have hN : mN k = mN h := hk.1.trans hF.1
  have hbk : RC k b A := hA.sam (fun q z1 z2 => ⟨by rw [hk.2.1], funext fun j => by rw [hI, if_neg (by omega)], by rw [hk.2.2.1], by rw [hk.2.2.2]⟩)
  refine ⟨⟨⟨?_, ?_, ?_⟩, ?_, ⟨by omega, by omega⟩, fun j h1 h2 => ?_, fun j l b b' h1 h2 h3 h4 h5 => ?_⟩, ⟨by omega, fun q h1 h2 h3 h4 => hs q h2 (h4 z b hz0.1 hz hb), fun j b h1 h2 h3 => ?_⟩⟩
  · rw [hk.2.1, hF.2.1]; exact H.1.1
  · rw [hr]; exact H.1.2.1
  · rw [hk.2.1, hF.2.1]; exact H.1.2.2
  · rw [hI, if_pos ⟨rfl, rfl⟩]
  · rw [hr, hN]
    by_cases e : j = z
    · subst e
      exact Or.inr ⟨b, hb, hlb.1, hlb.2, hbk.1.1, fun _ => by rw [hSz]; exact hbk⟩
    · rcases H.2.2.2.1 j h1 h2 with e1 | ⟨c, e1, e2, e3, e4, e5⟩
      · exact Or.inl ⟨e1.1, by omega⟩
      · have hd := H.dis ⟨h1, h2⟩ ⟨hz0.1, hz⟩ e e1 hb
        exact Or.inr ⟨c, e1, e2, e3, e4.sam (fun q z1 z2 => hs q (by omega) (by omega)), fun z1 => by
          rw [hS j h1 (by omega)]
          exact (e5 (by omega)).sam (fun q z1 z2 => hs q (by omega) (by omega))⟩
  · rw [hr] at h4 h5
    exact H.2.2.2.2 j l b b' h1 h2 h3 h4 h5
  · rw [hr] at h3
    exact Or.inr ⟨j, h1, h2, h3⟩
/-- how many are saved, which, when one more was -/
def psz (z : Int) : Int := if z = 6 then 6 else z + 1
def psh (z : Int) (Sv : Int → aS) (A : aS) (i : Int) : aS := if i = psz z - 1 then A else if z = 6 then Sv (i + 1) else Sv i
