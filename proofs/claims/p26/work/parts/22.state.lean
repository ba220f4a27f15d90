/-! ===== what a chamber IS: its numbers, apart from any memory ===== -/
/-- beat, words, walls, settings, and of the words seat, word, mark, beat; when each comes to each seat; what each seat heard -/
abbrev aS : Type := Int × Int × (Int → Int) × (Int → Int) × (Int → Int) × (Int → Int) × (Int → Int) × (Int → Int) × (Int → Int → Int) × (Int → Int → Int)
def aB (A : aS) : Int := A.1
def aW (A : aS) : Int := A.2.1
def aWl (A : aS) : Int → Int := A.2.2.1
def aSt (A : aS) : Int → Int := A.2.2.2.1
def aSe (A : aS) : Int → Int := A.2.2.2.2.1
def aWo (A : aS) : Int → Int := A.2.2.2.2.2.1
def aMa (A : aS) : Int → Int := A.2.2.2.2.2.2.1
def aAt (A : aS) : Int → Int := A.2.2.2.2.2.2.2.1
def aCo (A : aS) : Int → Int → Int := A.2.2.2.2.2.2.2.2.1
def aHe (A : aS) : Int → Int → Int := A.2.2.2.2.2.2.2.2.2
/-- the distance of two seats -/
def dist (x y : Int) : Int := if (if y < x then x - y else y - x) > 3 then 6 - (if y < x then x - y else y - x) else (if y < x then x - y else y - x)
/-- the delay between two seats; -1: never -/
def dly (A : aS) (x y : Int) : Int := if (aWl A y = 1 ∧ dist x y = 3) ∨ (aWl A y = 3 ∧ dist x y = 1) then -1 else if aWl A y = 2 then aSt A 0 + aSt A 1 * dist x y + 2 else aSt A 0 + aSt A 1 * dist x y
/-- the second-last voice: last and second, word by word -/
def vOk (f : Int → Int) (m t k : Int) : Prop := 0 ≤ f k ∧ f k ≤ t ∧ t - f k ≤ m
def vSt (f : Int → Int) (m t k : Int) (q : Int × Int) : Int × Int :=
  if 0 ≤ f k ∧ f k ≤ t ∧ t - f k ≤ m then (if q.1 < 0 ∨ f q.1 ≤ f k then (k, q.1) else if q.2 < 0 ∨ f q.2 ≤ f k then (q.1, k) else q) else q
def vFo (f : Int → Int) (m t : Int) : Nat → Int × Int
  | 0 => (-1, -1)
  | n + 1 => vSt f m t n (vFo f m t n)
def voi (w : Int) (f : Int → Int) (m t : Int) : Int := (vFo f m t w.toNat).2
/-- what a seat hears in a beat -/
def vce (A : aS) (s t : Int) : Int := voi (aW A) (aCo A s) (aSt A 2) t
/-- the first of c beats from k on in which n was heard; -1: in none -/
def fhF (g : Int → Int) (n : Int) : Int → Nat → Int
  | _, 0 => -1
  | k, c + 1 => if g k = n then k else fhF g n (k + 1) c
def fh (A : aS) (s n : Int) : Int := fhF (aHe A s) n (aAt A n) (aB A - aAt A n).toNat
/-- how many of 0 to n-1 -/
def cnt (P : Int → Prop) (d : ∀ k, Decidable (P k)) : Nat → Int
  | 0 => 0
  | n + 1 => cnt P d n + (match d n with
    | isTrue _ => 1
    | isFalse _ => 0)
def msg (A : aS) (p : Int) : Int := cnt (fun n => aMa A n ≠ -1 ∧ aSe A n * 10 + aMa A n = p) (fun _ => inferInstance) (aW A).toNat
/-- the ranges -/
def aOK (A : aS) : Prop := (0 ≤ aB A ∧ aB A ≤ 400) ∧ (0 ≤ aW A ∧ aW A ≤ 200) ∧ (∀ j, 0 ≤ j → j < 6 → 0 ≤ aWl A j ∧ aWl A j ≤ 3) ∧ ((0 ≤ aSt A 0 ∧ aSt A 0 ≤ 5) ∧ (0 ≤ aSt A 1 ∧ aSt A 1 ≤ 4) ∧ (1 ≤ aSt A 2 ∧ aSt A 2 ≤ 50)) ∧
  (∀ n, 0 ≤ n → n < aW A → (0 ≤ aSe A n ∧ aSe A n < 6) ∧ (1 ≤ aWo A n ∧ aWo A n ≤ 99) ∧ (-1 ≤ aMa A n ∧ aMa A n ≤ 9) ∧ (0 ≤ aAt A n ∧ aAt A n ≤ aB A)) ∧
  (∀ n n', 0 ≤ n → n < n' → n' < aW A → aAt A n < aAt A n') ∧
  (∀ s n, 0 ≤ s → s < 6 → 0 ≤ n → n < aW A → aCo A s n = -1 ∨ (aAt A n ≤ aCo A s n ∧ aCo A s n ≤ aAt A n + 19)) ∧
  (∀ s k, 0 ≤ s → s < 6 → 0 ≤ k → k < aB A → aHe A s k = -1 ∨ (0 ≤ aHe A s k ∧ aHe A s k < aW A ∧ aAt A (aHe A s k) ≤ k))
/-- of the class's chamber at b: what was said -/
def R0 (h : xM) (b : Nat) (A : aS) : Prop := ChS h b ∧ aOK A ∧ mI h b 0 = aB A ∧ mI h b 1 = aW A ∧ (∀ j, 0 ≤ j → j < 6 → mI h (b + 1) j = aWl A j) ∧ (∀ j, 0 ≤ j → j < 3 → mI h (b + 2) j = aSt A j) ∧
  (∀ n, 0 ≤ n → n < aW A → mI h (b + 3) n = aSe A n) ∧ (∀ n, 0 ≤ n → n < aW A → mI h (b + 4) n = aWo A n) ∧ (∀ n, 0 ≤ n → n < aW A → mI h (b + 5) n = aMa A n) ∧ (∀ n, 0 ≤ n → n < aW A → mI h (b + 6) n = aAt A n) ∧
  (∀ s n, 0 ≤ s → s < 6 → 0 ≤ n → n < aW A → mI h (b + 8 + s.toNat) n = aCo A s n)
/-- the class's chamber at b is A -/
def RC (h : xM) (b : Nat) (A : aS) : Prop := R0 h b A ∧ (∀ s n, 0 ≤ s → s < 6 → 0 ≤ n → n < aW A → mI h (b + 15 + s.toNat) n = fh A s n) ∧ (∀ s k, 0 ≤ s → s < 6 → 0 ≤ k → k < aB A → mI h (b + 22 + s.toNat) k = aHe A s k) ∧
  (∀ p, 0 ≤ p → p < 60 → mI h (b + 28) p = msg A p)
/-- each word was said in a beat that is over -/
def aPast (A : aS) : Prop := ∀ n, 0 ≤ n → n < aW A → aAt A n < aB A
/-- the model's row at a, from o on, is A -/
def RM (h : xM) (a : Nat) (o : Int) (A : aS) : Prop := (∀ j, 0 ≤ j → j < 3 → mI h a (o + j) = aSt A j) ∧ mI h a (o + 3) = aB A ∧ mI h a (o + 4) = aW A ∧ (∀ j, 0 ≤ j → j < 6 → mI h a (o + 5 + j) = aWl A j) ∧
  (∀ n, 0 ≤ n → n < aW A → mI h a (o + 11 + 10 * n) = aSe A n ∧ mI h a (o + 12 + 10 * n) = aWo A n ∧ mI h a (o + 13 + 10 * n) = aMa A n ∧ mI h a (o + 14 + 10 * n) = aAt A n) ∧
  (∀ s n, 0 ≤ s → s < 6 → 0 ≤ n → n < aW A → mI h a (o + 15 + 10 * n + s) = aCo A s n) ∧ (∀ s k, 0 ≤ s → s < 6 → 0 ≤ k → k < aB A → mI h a (o + 2011 + 400 * s + k) = aHe A s k)
/-! the second-last voice is the one that it is -/
def bef (f : Int → Int) (a b : Int) : Prop := f a < f b ∨ (f a = f b ∧ a < b)
/-- l is the last of P, r the one ahead of it -/
def T2 (P : Int → Prop) (f : Int → Int) (l r : Int) : Prop :=
  (l = -1 ∧ r = -1 ∧ ∀ k, ¬ P k) ∨ (0 ≤ l ∧ P l ∧ r = -1 ∧ ∀ k, P k → k = l) ∨ (0 ≤ l ∧ 0 ≤ r ∧ P l ∧ P r ∧ bef f r l ∧ ∀ k, P k → k = l ∨ k = r ∨ bef f k r)
theorem T2.uniq {P : Int → Prop} {f : Int → Int} {l r l' r' : Int} (h : T2 P f l r) (h' : T2 P f l' r') : l = l' ∧ r = r' := by
  rcases h with ⟨a1, a2, a3⟩ | ⟨a0, a1, a2, a3⟩ | ⟨a0, a1, a2, a3, a4, a5⟩ <;> rcases h' with ⟨b1, b2, b3⟩ | ⟨b0, b1, b2, b3⟩ | ⟨b0, b1, b2, b3, b4, b5⟩
  · exact ⟨by omega, by omega⟩
  · exact absurd b1 (a3 _)
  · exact absurd b2 (a3 _)
  · exact absurd a1 (b3 _)
  · exact ⟨b3 _ a1, by omega⟩
  · have e1 := a3 _ b2
    have e2 := a3 _ b3
    subst e1
    subst e2
    unfold bef at b4
    omega
  · exact absurd a2 (b3 _)
  · have e1 := b3 _ a2
    have e2 := b3 _ a3
    subst e1
    subst e2
    unfold bef at a4
    omega
  · unfold bef at *
    have p1 := a5 _ b2
    have p2 := a5 _ b3
    have p3 := b5 _ a2
    have p4 := b5 _ a3
    have key1 : l = l' := by
      rcases p1 with e | e | e <;> rcases p3 with q | q | q <;> (try have e' := congrArg f e) <;> (try have q' := congrArg f q) <;> omega
    refine ⟨key1, ?_⟩
    have key3 := congrArg f key1
    rcases p4 with e | e | e <;> rcases p2 with q | q | q <;> (try have e' := congrArg f e) <;> (try have q' := congrArg f q) <;> omega
theorem T2.bnd {P : Int → Prop} {f : Int → Int} {l r : Int} (h : T2 P f l r) : (-1 ≤ l ∧ (l = -1 ∨ P l)) ∧ (-1 ≤ r ∧ (r = -1 ∨ P r)) := by
  rcases h with ⟨a1, a2, a3⟩ | ⟨a0, a1, a2, a3⟩ | ⟨a0, a1, a2, a3, a4, a5⟩
  · exact ⟨⟨by omega, Or.inl a1⟩, by omega, Or.inl a2⟩
  · exact ⟨⟨by omega, Or.inr a1⟩, by omega, Or.inl a2⟩
  · exact ⟨⟨by omega, Or.inr a2⟩, by omega, Or.inr a3⟩
/-- going on upward -/
theorem vFo_T2 (f : Int → Int) (m t : Int) : ∀ n : Nat, T2 (fun k => (0 ≤ k ∧ k < n) ∧ vOk f m t k) f (vFo f m t n).1 (vFo f m t n).2
  | 0 => Or.inl ⟨rfl, rfl, fun k hk => by have := hk.1; omega⟩
  | n + 1 => by
    have ih := vFo_T2 f m t n
    show T2 _ f (vSt f m t n (vFo f m t n)).1 (vSt f m t n (vFo f m t n)).2
    generalize vFo f m t n = q at ih
    obtain ⟨l, r⟩ := q
    unfold vSt
    dsimp only at ih ⊢
    by_cases hv : 0 ≤ f n ∧ f n ≤ t ∧ t - f n ≤ m
    · have hP : (0 ≤ (n : Int) ∧ (n : Int) < ((n + 1 : Nat) : Int)) ∧ vOk f m t n := ⟨by omega, hv⟩
      have hup : ∀ k, ((0 ≤ k ∧ k < ((n + 1 : Nat) : Int)) ∧ vOk f m t k) → k = n ∨ ((0 ≤ k ∧ k < (n : Int)) ∧ vOk f m t k) := fun k hk => by
        by_cases e : k = n
        · exact Or.inl e
        · exact Or.inr ⟨by have := hk.1; omega, hk.2⟩
      have hdn : ∀ k, ((0 ≤ k ∧ k < (n : Int)) ∧ vOk f m t k) → ((0 ≤ k ∧ k < ((n + 1 : Nat) : Int)) ∧ vOk f m t k) := fun k hk => ⟨by have := hk.1; omega, hk.2⟩
      rw [if_pos hv]
      try dsimp only
      rcases ih with ⟨a1, a2, a3⟩ | ⟨a0, a1, a2, a3⟩ | ⟨a0, a1, a2, a3, a4, a5⟩
      · subst a1; subst a2
        rw [if_pos (Or.inl (by omega))]
        refine Or.inr (Or.inl ⟨by omega, hP, rfl, fun k hk => ?_⟩)
        rcases hup k hk with e | e
        · exact e
        · exact absurd e (a3 k)
      · by_cases e1 : f l ≤ f n
        · rw [if_pos (Or.inr e1)]
          refine Or.inr (Or.inr ⟨by (try dsimp only); omega, by (try dsimp only); omega, hP, hdn _ a1, ?_, fun k hk => ?_⟩)
          · have := a1.1
            try dsimp only at this
            unfold bef; (try dsimp only); omega
          · rcases hup k hk with e | e
            · exact Or.inl e
            · exact Or.inr (Or.inl (a3 k e))
        · rw [if_neg (by omega), if_pos (Or.inl (by omega))]
          refine Or.inr (Or.inr ⟨a0, by (try dsimp only); omega, hdn _ a1, hP, by unfold bef; (try dsimp only); omega, fun k hk => ?_⟩)
          rcases hup k hk with e | e
          · exact Or.inr (Or.inl e)
          · exact Or.inl (a3 k e)
      · have hl := a2.1
        have hr := a3.1
        try dsimp only at hl hr
        unfold bef at a4
        by_cases e1 : f l ≤ f n
        · rw [if_pos (Or.inr e1)]
          refine Or.inr (Or.inr ⟨by (try dsimp only); omega, a0, hP, hdn _ a2, by unfold bef; (try dsimp only); omega, fun k hk => ?_⟩)
          rcases hup k hk with e | e
          · exact Or.inl e
          · rcases a5 k e with q | q | q
            · exact Or.inr (Or.inl q)
            · subst q
              exact Or.inr (Or.inr (by unfold bef; (try dsimp only); omega))
            · unfold bef at q
              exact Or.inr (Or.inr (by unfold bef; (try dsimp only); omega))
        · rw [if_neg (by omega)]
          by_cases e2 : f r ≤ f n
          · rw [if_pos (Or.inr e2)]
            refine Or.inr (Or.inr ⟨a0, by (try dsimp only); omega, hdn _ a2, hP, by unfold bef; (try dsimp only); omega, fun k hk => ?_⟩)
            rcases hup k hk with e | e
            · exact Or.inr (Or.inl e)
            · rcases a5 k e with q | q | q
              · exact Or.inl q
              · subst q
                exact Or.inr (Or.inr (by unfold bef; (try dsimp only); omega))
              · unfold bef at q
                exact Or.inr (Or.inr (by unfold bef; (try dsimp only); omega))
          · rw [if_neg (by omega)]
            refine Or.inr (Or.inr ⟨a0, a1, hdn _ a2, hdn _ a3, by unfold bef; (try dsimp only); omega, fun k hk => ?_⟩)
            rcases hup k hk with e | e
            · subst e
              exact Or.inr (Or.inr (by unfold bef; (try dsimp only); omega))
            · exact a5 k e
    · rw [if_neg hv]
      have hup : ∀ k, ((0 ≤ k ∧ k < ((n + 1 : Nat) : Int)) ∧ vOk f m t k) ↔ ((0 ≤ k ∧ k < (n : Int)) ∧ vOk f m t k) := fun k => by
        constructor
        · intro hk
          by_cases e : k = n
          · subst e; exact absurd hk.2 hv
          · exact ⟨by have := hk.1; omega, hk.2⟩
        · exact fun hk => ⟨by have := hk.1; omega, hk.2⟩
      rw [show (fun k => (0 ≤ k ∧ k < ((n + 1 : Nat) : Int)) ∧ vOk f m t k) = (fun k => (0 ≤ k ∧ k < (n : Int)) ∧ vOk f m t k) from funext fun k => propext (hup k)]
      exact ih
theorem voi_of {w : Int} {f : Int → Int} {m t l r : Int} (h : T2 (fun k => (0 ≤ k ∧ k < w) ∧ vOk f m t k) f l r) (hw : 0 ≤ w) : r = voi w f m t := by
  have := vFo_T2 f m t w.toNat
  rw [show ((w.toNat : Nat) : Int) = w by omega] at this
  exact (h.uniq this).2
theorem voi_bnd (w : Int) (f : Int → Int) (m t : Int) (hw : 0 ≤ w) : voi w f m t = -1 ∨ (0 ≤ voi w f m t ∧ voi w f m t < w ∧ vOk f m t (voi w f m t)) := by
  have := (vFo_T2 f m t w.toNat).bnd.2
  rw [show ((w.toNat : Nat) : Int) = w by omega] at this
  unfold voi
  rcases this.2 with e | e
  · exact Or.inl e
  · exact Or.inr ⟨e.1.1, e.1.2, e.2⟩
/-- going on downward: a word ahead of all that were looked at -/
theorem T2.down {P P' : Int → Prop} {f : Int → Int} {l r n : Int} (h : T2 P f l r) (h0 : 0 ≤ n) (hlow : ∀ k, P k → n < k) (hn : P' n) (hP : ∀ k, P' k ↔ (k = n ∨ P k)) :
    T2 P' f (if l = -1 ∨ f l < f n then n else l) (if l = -1 ∨ f l < f n then l else if r = -1 ∨ f r < f n then n else r) := by
  have hup := fun k hk => (hP k).mp hk
  have hdn := fun k (hk : P k) => (hP k).mpr (Or.inr hk)
  rcases h with ⟨a1, a2, a3⟩ | ⟨a0, a1, a2, a3⟩ | ⟨a0, a1, a2, a3, a4, a5⟩
  · rw [if_pos (Or.inl a1), if_pos (Or.inl a1)]
    refine Or.inr (Or.inl ⟨h0, hn, a1, fun k hk => ?_⟩)
    rcases hup k hk with e | e
    · exact e
    · exact absurd e (a3 k)
  · have := hlow _ a1
    by_cases e1 : f l < f n
    · rw [if_pos (Or.inr e1), if_pos (Or.inr e1)]
      refine Or.inr (Or.inr ⟨h0, a0, hn, hdn _ a1, by unfold bef; omega, fun k hk => ?_⟩)
      rcases hup k hk with e | e
      · exact Or.inl e
      · exact Or.inr (Or.inl (a3 k e))
    · rw [if_neg (by omega), if_neg (by omega), if_pos (Or.inl a2)]
      refine Or.inr (Or.inr ⟨a0, h0, hdn _ a1, hn, by unfold bef; omega, fun k hk => ?_⟩)
      rcases hup k hk with e | e
      · exact Or.inr (Or.inl e)
      · exact Or.inl (a3 k e)
  · have q1 := hlow _ a2
    have q2 := hlow _ a3
    unfold bef at a4
    by_cases e1 : f l < f n
    · rw [if_pos (Or.inr e1), if_pos (Or.inr e1)]
      refine Or.inr (Or.inr ⟨h0, a0, hn, hdn _ a2, by unfold bef; omega, fun k hk => ?_⟩)
      rcases hup k hk with e | e
      · exact Or.inl e
      · rcases a5 k e with q | q | q
        · exact Or.inr (Or.inl q)
        · subst q; exact Or.inr (Or.inr (by unfold bef; omega))
        · unfold bef at q; exact Or.inr (Or.inr (by unfold bef; omega))
    · rw [if_neg (by omega), if_neg (by omega)]
      by_cases e2 : f r < f n
      · rw [if_pos (Or.inr e2)]
        refine Or.inr (Or.inr ⟨a0, h0, hdn _ a2, hn, by unfold bef; omega, fun k hk => ?_⟩)
        rcases hup k hk with e | e
        · exact Or.inr (Or.inl e)
        · rcases a5 k e with q | q | q
          · exact Or.inl q
          · subst q; exact Or.inr (Or.inr (by unfold bef; omega))
          · unfold bef at q; exact Or.inr (Or.inr (by unfold bef; omega))
      · rw [if_neg (by omega)]
        refine Or.inr (Or.inr ⟨a0, a1, hdn _ a2, hdn _ a3, by unfold bef; omega, fun k hk => ?_⟩)
        rcases hup k hk with e | e
        · subst e; exact Or.inr (Or.inr (by unfold bef; omega))
        · exact a5 k e
theorem T2.skip {P P' : Int → Prop} {f : Int → Int} {l r : Int} (h : T2 P f l r) (hP : ∀ k, P' k ↔ P k) : T2 P' f l r := by
  rw [show P' = P from funext fun k => propext (hP k)]
  exact h
