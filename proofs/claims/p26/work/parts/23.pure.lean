/-! ===== steps of a chamber ===== -/
theorem dist_rng {x y : Int} (hx : 0 ≤ x ∧ x < 6) (hy : 0 ≤ y ∧ y < 6) : 0 ≤ dist x y ∧ dist x y ≤ 3 := by unfold dist; omega
theorem dly_rng {A : aS} (hA : aOK A) {x y : Int} (hx : 0 ≤ x ∧ x < 6) (hy : 0 ≤ y ∧ y < 6) : dly A x y = -1 ∨ (0 ≤ dly A x y ∧ dly A x y ≤ 19) := by
  have hd := dist_rng hx hy
  have hs := hA.2.2.2.1
  unfold dly
  split
  · exact Or.inl rfl
  · right
    generalize dist x y = d at *
    rcases (show d = 0 ∨ d = 1 ∨ d = 2 ∨ d = 3 by omega) with rfl | rfl | rfl | rfl <;> split <;> omega
theorem fhF_eq (g : Int → Int) (n : Int) : ∀ (c : Nat) (k : Int), (fhF g n k c = -1 ∧ ∀ j, k ≤ j → j < k + c → g j ≠ n) ∨ (k ≤ fhF g n k c ∧ fhF g n k c < k + c ∧ g (fhF g n k c) = n ∧ ∀ j, k ≤ j → j < fhF g n k c → g j ≠ n)
  | 0, k => Or.inl ⟨rfl, fun j h1 h2 => by omega⟩
  | c + 1, k => by
    unfold fhF
    by_cases e : g k = n
    · rw [if_pos e]
      exact Or.inr ⟨by omega, by omega, e, fun j h1 h2 => by omega⟩
    · rw [if_neg e]
      rcases fhF_eq g n c (k + 1) with ⟨a1, a2⟩ | ⟨a1, a2, a3, a4⟩
      · refine Or.inl ⟨a1, fun j h1 h2 => ?_⟩
        by_cases ej : j = k
        · subst ej; exact e
        · exact a2 j (by omega) (by omega)
      · refine Or.inr ⟨by omega, by omega, a3, fun j h1 h2 => ?_⟩
        by_cases ej : j = k
        · subst ej; exact e
        · exact a4 j (by omega) h2
theorem fhF_last (g : Int → Int) (n : Int) : ∀ (c : Nat) (k : Int), 0 ≤ k → fhF g n k (c + 1) = if fhF g n k c ≠ -1 then fhF g n k c else if g (k + c) = n then k + c else -1
  | 0, k, hk => by
    show (if g k = n then k else fhF g n (k + 1) 0) = if fhF g n k 0 ≠ -1 then fhF g n k 0 else if g (k + (0 : Nat)) = n then k + (0 : Nat) else -1
    rw [if_neg (show ¬ fhF g n k 0 ≠ -1 from fun h => h rfl), show k + ((0 : Nat) : Int) = k by omega]
    rfl
  | c + 1, k, hk => by
    have ih := fhF_last g n c (k + 1) (by omega)
    show (if g k = n then k else fhF g n (k + 1) (c + 1)) = if (if g k = n then k else fhF g n (k + 1) c) ≠ -1 then (if g k = n then k else fhF g n (k + 1) c) else _
    by_cases e : g k = n
    · rw [if_pos e, if_pos (by rw [if_pos e]; omega), if_pos e]
    · rw [if_neg e, if_neg e, ih, show k + 1 + (c : Int) = k + ((c + 1 : Nat) : Int) by omega]
theorem fhF_congr {g g' : Int → Int} {n : Int} : ∀ (c : Nat) (k : Int), (∀ j, k ≤ j → j < k + c → g j = g' j) → fhF g n k c = fhF g' n k c
  | 0, _, _ => rfl
  | c + 1, k, h => by
    unfold fhF
    rw [h k (by omega) (by omega), fhF_congr c (k + 1) (fun j h1 h2 => h j (by omega) (by omega))]
theorem fh_rng {A : aS} (hA : aOK A) (s n : Int) (h1 : 0 ≤ s) (h2 : s < 6) (h3 : 0 ≤ n) (h4 : n < aW A) : fh A s n = -1 ∨ (aAt A n ≤ fh A s n ∧ fh A s n < aB A ∧ aHe A s (fh A s n) = n) := by
  have := hA.2.2.2.2.1 n h3 h4
  unfold fh
  rcases fhF_eq (aHe A s) n (aB A - aAt A n).toNat (aAt A n) with e | e
  · exact Or.inl e.1
  · exact Or.inr ⟨e.1, by omega, e.2.2.1⟩
theorem cnt_rng (P : Int → Prop) (d : ∀ k, Decidable (P k)) : ∀ n : Nat, 0 ≤ cnt P d n ∧ cnt P d n ≤ n
  | 0 => ⟨Int.le_refl _, Int.le_refl _⟩
  | n + 1 => by
    have := cnt_rng P d n
    unfold cnt
    cases d n <;> (dsimp only; omega)
theorem cnt_congr {P Q : Int → Prop} {d : ∀ k, Decidable (P k)} {e : ∀ k, Decidable (Q k)} : ∀ n : Nat, (∀ k : Int, 0 ≤ k → k < n → (P k ↔ Q k)) → cnt P d n = cnt Q e n
  | 0, _ => rfl
  | n + 1, h => by
    unfold cnt
    rw [cnt_congr n (fun k h1 h2 => h k h1 (by omega))]
    have := h n (by omega) (by omega)
    cases d n <;> cases e n <;> first | rfl | (exfalso; simp_all)
theorem cnt_add {P : Int → Prop} {d : ∀ k, Decidable (P k)} (n : Nat) : cnt P d (n + 1) = cnt P d n + if P n then 1 else 0 := by
  show cnt P d n + _ = _
  cases d n with
  | isTrue h => rw [if_pos h]
  | isFalse h => rw [if_neg h]
theorem cnt_at {P : Int → Prop} {d : ∀ k, Decidable (P k)} {k : Int} (h : 0 ≤ k) : cnt P d (k + 1).toNat = cnt P d k.toNat + if P k then 1 else 0 := by
  rw [show (k + 1).toNat = k.toNat + 1 by omega, cnt_add, show ((k.toNat : Nat) : Int) = k by omega]
theorem msg_rng {A : aS} (hA : aOK A) (p : Int) : 0 ≤ msg A p ∧ msg A p ≤ 200 := by
  have := hA.2.1
  unfold msg
  have h2 := cnt_rng (fun n => aMa A n ≠ -1 ∧ aSe A n * 10 + aMa A n = p) (fun _ => inferInstance) (aW A).toNat
  omega
/-- the beat of now is over -/
def aEnd (A : aS) : aS := (aB A + 1, aW A, aWl A, aSt A, aSe A, aWo A, aMa A, aAt A, aCo A, fun s k => if k = aB A then vce A s (aB A) else aHe A s k)
def aRest (A : aS) : Nat → aS
  | 0 => A
  | n + 1 => aEnd (aRest A n)
def up1 (f : Int → Int) (k x : Int) : Int → Int := fun j => if j = k then x else f j
/-- a word more, its beat not yet over -/
def aAdd (A : aS) (s w m : Int) : aS := (aB A, aW A + 1, aWl A, aSt A, up1 (aSe A) (aW A) s, up1 (aWo A) (aW A) w, up1 (aMa A) (aW A) m, up1 (aAt A) (aW A) (aB A), fun q n => if n = aW A then (if dly A s q = -1 then -1 else aB A + dly A s q) else aCo A q n, aHe A)
theorem vce_rng {A : aS} (hA : aOK A) (s t : Int) (h1 : 0 ≤ s) (h2 : s < 6) : vce A s t = -1 ∨ (0 ≤ vce A s t ∧ vce A s t < aW A ∧ aAt A (vce A s t) ≤ t ∧ vOk (aCo A s) (aSt A 2) t (vce A s t)) := by
  have hw := hA.2.1
  unfold vce
  rcases voi_bnd (aW A) (aCo A s) (aSt A 2) t (by omega) with e | e
  · exact Or.inl e
  · right
    have := hA.2.2.2.2.2.2.1 s _ h1 h2 e.1 e.2.1
    have h3 := e.2.2
    refine ⟨e.1, e.2.1, ?_, h3⟩
    unfold vOk at h3
    omega
theorem aEnd_ok {A : aS} (hA : aOK A) (hB : aB A < 400) : aOK (aEnd A) := by
  obtain ⟨okB, okN, okWl, okS, okW, okM, okC, okH⟩ := id hA
  refine ⟨?_, okN, okWl, okS, fun n h1 h2 => ?_, okM, okC, fun s k h1 h2 h3 h4 => ?_⟩
  · show 0 ≤ aB A + 1 ∧ aB A + 1 ≤ 400
    omega
  · have := okW n h1 h2
    refine ⟨this.1, this.2.1, this.2.2.1, this.2.2.2.1, ?_⟩
    show aAt A n ≤ aB A + 1
    omega
  · show (if k = aB A then vce A s (aB A) else aHe A s k) = -1 ∨ (0 ≤ (if k = aB A then vce A s (aB A) else aHe A s k) ∧ (if k = aB A then vce A s (aB A) else aHe A s k) < aW A ∧ aAt A (if k = aB A then vce A s (aB A) else aHe A s k) ≤ k)
    have h4 : k < aB A + 1 := h4
    by_cases e : k = aB A
    · rw [if_pos e]
      rcases vce_rng hA s (aB A) h1 h2 with q | q
      · exact Or.inl q
      · exact Or.inr ⟨q.1, q.2.1, by omega⟩
    · rw [if_neg e]
      exact okH s k h1 h2 h3 (by omega)
theorem aEnd_past {A : aS} (hA : aOK A) : aPast (aEnd A) := fun n h1 h2 => by
  have := hA.2.2.2.2.1 n h1 h2
  show aAt A n < aB A + 1
  omega
/-- what was heard first, a beat later -/
theorem fh_end {A : aS} (hA : aOK A) (s n : Int) (h3 : 0 ≤ n) (h4 : n < aW A) : fh (aEnd A) s n = if fh A s n = -1 ∧ vce A s (aB A) = n then aB A else fh A s n := by
  have h := hA.2.2.2.2.1 n h3 h4
  unfold fh
  show fhF (aHe (aEnd A) s) n (aAt A n) (aB A + 1 - aAt A n).toNat = _
  rw [show (aB A + 1 - aAt A n).toNat = (aB A - aAt A n).toNat + 1 by omega, fhF_last _ _ _ _ (by omega)]
  have e1 : fhF (aHe (aEnd A) s) n (aAt A n) (aB A - aAt A n).toNat = fhF (aHe A s) n (aAt A n) (aB A - aAt A n).toNat := fhF_congr _ _ (fun j h1 h2 => by
    show (if j = aB A then _ else _) = _
    rw [if_neg (by omega)])
  have e2 : aHe (aEnd A) s (aAt A n + ((aB A - aAt A n).toNat : Int)) = vce A s (aB A) := by
    show (if _ = aB A then _ else _) = _
    rw [if_pos (by omega)]
  rw [e1, e2]
  by_cases q1 : fhF (aHe A s) n (aAt A n) (aB A - aAt A n).toNat = -1
  · rw [if_neg (fun z => z q1)]
    by_cases q2 : vce A s (aB A) = n
    · rw [if_pos q2, if_pos ⟨q1, q2⟩]; omega
    · rw [if_neg q2, if_neg (fun z => q2 z.2), q1]
  · rw [if_pos q1, if_neg (fun z => q1 z.1)]
theorem msg_end (A : aS) (p : Int) : msg (aEnd A) p = msg A p := rfl
theorem aAdd_ok {A : aS} (hA : aOK A) (hp : aPast A) (hW : aW A < 200) {s w m : Int} (hs : 0 ≤ s ∧ s < 6) (hw : 1 ≤ w ∧ w ≤ 99) (hm : -1 ≤ m ∧ m ≤ 9) : aOK (aAdd A s w m) := by
  obtain ⟨okB, okN, okWl, okS, okW, okM, okC, okH⟩ := id hA
  refine ⟨okB, ?_, okWl, okS, fun n h1 h2 => ?_, fun n n' h1 h2 h3 => ?_, fun q n h1 h2 h3 h4 => ?_, fun q k h1 h2 h3 h4 => ?_⟩
  · show 0 ≤ aW A + 1 ∧ aW A + 1 ≤ 200
    omega
  · have h2 : n < aW A + 1 := h2
    show (0 ≤ up1 (aSe A) (aW A) s n ∧ up1 (aSe A) (aW A) s n < 6) ∧ (1 ≤ up1 (aWo A) (aW A) w n ∧ up1 (aWo A) (aW A) w n ≤ 99) ∧ (-1 ≤ up1 (aMa A) (aW A) m n ∧ up1 (aMa A) (aW A) m n ≤ 9) ∧ (0 ≤ up1 (aAt A) (aW A) (aB A) n ∧ up1 (aAt A) (aW A) (aB A) n ≤ aB A)
    unfold up1
    by_cases e : n = aW A
    · simp only [e, if_true]; omega
    · simp only [e, if_false]; exact okW n h1 (by omega)
  · have h3 : n' < aW A + 1 := h3
    show up1 (aAt A) (aW A) (aB A) n < up1 (aAt A) (aW A) (aB A) n'
    unfold up1
    by_cases e : n' = aW A
    · rw [if_pos e, if_neg (by omega)]
      exact hp n h1 (by omega)
    · rw [if_neg e, if_neg (by omega)]
      exact okM n n' h1 h2 (by omega)
  · have h4 : n < aW A + 1 := h4
    show (if n = aW A then (if dly A s q = -1 then -1 else aB A + dly A s q) else aCo A q n) = -1 ∨ (up1 (aAt A) (aW A) (aB A) n ≤ (if n = aW A then (if dly A s q = -1 then -1 else aB A + dly A s q) else aCo A q n) ∧ (if n = aW A then (if dly A s q = -1 then -1 else aB A + dly A s q) else aCo A q n) ≤ up1 (aAt A) (aW A) (aB A) n + 19)
    unfold up1
    by_cases e : n = aW A
    · have := dly_rng hA hs ⟨h1, h2⟩
      simp only [e, if_true]
      split <;> omega
    · simp only [e, if_false]
      exact okC q n h1 h2 h3 (by omega)
  · have := okH q k h1 h2 h3 h4
    show aHe A q k = -1 ∨ (0 ≤ aHe A q k ∧ aHe A q k < aW A + 1 ∧ up1 (aAt A) (aW A) (aB A) (aHe A q k) ≤ k)
    rcases this with e | e
    · exact Or.inl e
    · right
      unfold up1
      rw [if_neg (by omega)]
      omega
theorem fh_add_old {A : aS} {s w m : Int} (q n : Int) (h : n < aW A) : fh (aAdd A s w m) q n = fh A q n := by
  unfold fh
  have e : aAt (aAdd A s w m) n = aAt A n := by
    show up1 (aAt A) (aW A) (aB A) n = _
    unfold up1
    rw [if_neg (by omega)]
  rw [e]
  rfl
theorem fh_add_new {A : aS} {s w m : Int} (q : Int) : fh (aAdd A s w m) q (aW A) = -1 := by
  unfold fh
  have e : aAt (aAdd A s w m) (aW A) = aB A := by
    show up1 (aAt A) (aW A) (aB A) (aW A) = _
    unfold up1
    rw [if_pos rfl]
  rw [e, show (aB (aAdd A s w m) - aB A).toNat = 0 by show (aB A - aB A).toNat = 0; omega]
  rfl
theorem msg_add {A : aS} (hA : aOK A) {s w m : Int} (p : Int) : msg (aAdd A s w m) p = msg A p + if m ≠ -1 ∧ s * 10 + m = p then 1 else 0 := by
  have := hA.2.1
  unfold msg
  show cnt (fun n => up1 (aMa A) (aW A) m n ≠ -1 ∧ up1 (aSe A) (aW A) s n * 10 + up1 (aMa A) (aW A) m n = p) (fun _ => inferInstance) (aW A + 1).toNat = _
  rw [cnt_at this.1]
  have e1 : up1 (aMa A) (aW A) m (aW A) = m := if_pos rfl
  have e2 : up1 (aSe A) (aW A) s (aW A) = s := if_pos rfl
  rw [e1, e2]
  congr 1
  apply cnt_congr
  intro k h1 h2
  have e3 : up1 (aMa A) (aW A) m k = aMa A k := if_neg (by omega)
  have e4 : up1 (aSe A) (aW A) s k = aSe A k := if_neg (by omega)
  rw [e3, e4]
