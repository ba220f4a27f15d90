/-! ===== what is told of a chamber ===== -/
def hBt (A : aS) (s : Int) : Int := cnt (fun k => aHe A s k ≠ -1) (fun _ => inferInstance) (aB A).toNat
def hWd (A : aS) (s : Int) : Int := cnt (fun n => fh A s n ≠ -1) (fun _ => inferInstance) (aW A).toNat
def hWb (A : aS) (s : Int) : Int := cnt (fun k => aHe A s k ≠ -1 ∧ fh A s (aHe A s k) = k) (fun _ => inferInstance) (aB A).toNat
def hRp (A : aS) (s : Int) : Int := cnt (fun k => 0 < k ∧ aHe A s k ≠ -1 ∧ aHe A s k = aHe A s (k - 1)) (fun _ => inferInstance) (aB A).toNat
def sBy (A : aS) (s : Int) : Int := cnt (fun n => aSe A n = s) (fun _ => inferInstance) (aW A).toNat
/-- gaps so far, whether something was heard, whether it is silent -/
def gpF (g : Int → Int) : Nat → Int × Int × Int
  | 0 => (0, 0, 0)
  | n + 1 => if g n = -1 then ((gpF g n).1, (gpF g n).2.1, 1) else ((gpF g n).1 + (if (gpF g n).2.1 = 1 ∧ (gpF g n).2.2 = 1 then 1 else 0), 1, 0)
def gap (A : aS) (s : Int) : Int := (gpF (aHe A s) (aB A).toNat).1
theorem gpF_rng (g : Int → Int) : ∀ n : Nat, (0 ≤ (gpF g n).1 ∧ (gpF g n).1 ≤ n) ∧ ((gpF g n).2.1 = 0 ∨ (gpF g n).2.1 = 1) ∧ ((gpF g n).2.2 = 0 ∨ (gpF g n).2.2 = 1)
  | 0 => ⟨⟨Int.le_refl _, Int.le_refl _⟩, Or.inl rfl, Or.inl rfl⟩
  | n + 1 => by
    have := gpF_rng g n
    unfold gpF
    by_cases e : g n = -1
    · rw [if_pos e]; dsimp only; omega
    · rw [if_neg e]; dsimp only; split <;> omega
def mkF (P : Int → Prop) (d : ∀ k, Decidable (P k)) : Nat → Int
  | 0 => 0
  | n + 1 => mkF P d n + (match d n with
    | isTrue _ => 2 ^ n
    | isFalse _ => 0)
theorem mkF_add {P : Int → Prop} {d : ∀ k, Decidable (P k)} (n : Nat) : mkF P d (n + 1) = mkF P d n + if P n then 2 ^ n else 0 := by
  show mkF P d n + _ = _
  cases d n with
  | isTrue h => rw [if_pos h]
  | isFalse h => rw [if_neg h]
theorem mkF_rng (P : Int → Prop) (d : ∀ k, Decidable (P k)) : ∀ n : Nat, 0 ≤ mkF P d n ∧ mkF P d n < 2 ^ n
  | 0 => ⟨Int.le_refl _, by show (0 : Int) < 1; decide⟩
  | n + 1 => by
    have := mkF_rng P d n
    rw [mkF_add, Int.pow_succ]
    split <;> omega
theorem mkF_congr {P Q : Int → Prop} {d : ∀ k, Decidable (P k)} {e : ∀ k, Decidable (Q k)} : ∀ n : Nat, (∀ k : Int, 0 ≤ k → k < n → (P k ↔ Q k)) → mkF P d n = mkF Q e n
  | 0, _ => rfl
  | n + 1, h => by
    rw [mkF_add, mkF_add, mkF_congr n (fun k h1 h2 => h k h1 (by omega))]
    have := h n (by omega) (by omega)
    by_cases q : P n
    · rw [if_pos q, if_pos (this.mp q)]
    · rw [if_neg q, if_neg (fun z => q (this.mpr z))]
/-- the seats to which a word comes, that heard it -/
def mCo (A : aS) (n : Int) : Int := mkF (fun s => aCo A s n ≠ -1) (fun _ => inferInstance) 6
def mHe (A : aS) (n : Int) : Int := mkF (fun s => fh A s n ≠ -1) (fun _ => inferInstance) 6
def oWd (A : aS) (n w : Int) : Int := if w = 0 then aSe A n else if w = 1 then aWo A n else if w = 2 then aMa A n else if w = 3 then aAt A n else if w = 4 then mCo A n else mHe A n
def oBt (A : aS) (s k w : Int) : Int := if aHe A s k = -1 then -1 else if w = 0 then aHe A s k else if w = 1 then aWo A (aHe A s k) else if 0 < k ∧ aHe A s (k - 1) = aHe A s k then 1 else 0
def oSp (A : aS) (s w : Int) : Int := if w = 0 then aWl A s else if w = 1 then hBt A s else if w = 3 then hRp A s else if w = 4 then aB A - hBt A s else if w = 5 then gap A s else if w = 6 then sBy A s else hWd A s
/-- a message: all words, those that were heard, the latest beat, in order -/
def hwS (A : aS) (f m s n : Int) (q : Int × Int × Int × Int) : Int × Int × Int × Int :=
  if aSe A n = f ∧ aMa A n = m then (q.1 + 1, q.2.1 + (if 0 ≤ fh A s n then 1 else 0), (if fh A s n > q.2.2.1 then fh A s n else q.2.2.1), (if q.2.2.2 = 1 ∧ fh A s n > q.2.2.1 then 1 else 0)) else q
def hwF (A : aS) (f m s : Int) : Nat → Int × Int × Int × Int
  | 0 => (0, 0, -1, 1)
  | n + 1 => hwS A f m s n (hwF A f m s n)
def how (A : aS) (f m s : Int) : Int := if (hwF A f m s (aW A).toNat).1 = 0 then -1 else if (hwF A f m s (aW A).toNat).2.1 = 0 then 0 else if (hwF A f m s (aW A).toNat).2.1 < (hwF A f m s (aW A).toNat).1 then 1 else if (hwF A f m s (aW A).toNat).2.2.2 = 1 then 3 else 2
theorem hwF_rng (A : aS) (f m s : Int) : ∀ n : Nat, (0 ≤ (hwF A f m s n).1 ∧ (hwF A f m s n).1 ≤ n) ∧ (0 ≤ (hwF A f m s n).2.1 ∧ (hwF A f m s n).2.1 ≤ (hwF A f m s n).1) ∧ -1 ≤ (hwF A f m s n).2.2.1 ∧ ((hwF A f m s n).2.2.2 = 0 ∨ (hwF A f m s n).2.2.2 = 1)
  | 0 => ⟨⟨Int.le_refl _, Int.le_refl _⟩, ⟨Int.le_refl _, Int.le_refl _⟩, Int.le_refl _, Or.inr rfl⟩
  | n + 1 => by
    have := hwF_rng A f m s n
    show _ ∧ _
    unfold hwF hwS
    generalize hwF A f m s n = q at *
    split
    · dsimp only
      refine ⟨by omega, ?_, ?_, ?_⟩
      · split <;> omega
      · split <;> omega
      · split <;> omega
    · omega
theorem how_rng (A : aS) (f m s : Int) : -1 ≤ how A f m s ∧ how A f m s ≤ 3 := by unfold how; split <;> (try split) <;> (try split) <;> (try split) <;> omega
theorem hwF_all (A : aS) (f m s : Int) (hm : 0 ≤ m ∧ m ≤ 9) (hf : 0 ≤ f) : ∀ n : Nat, (∀ k : Int, 0 ≤ k → k < n → 0 ≤ aSe A k ∧ -1 ≤ aMa A k ∧ aMa A k ≤ 9) → (hwF A f m s n).1 = cnt (fun n => aMa A n ≠ -1 ∧ aSe A n * 10 + aMa A n = f * 10 + m) (fun _ => inferInstance) n
  | 0, _ => rfl
  | n + 1, h => by
    rw [cnt_add, ← hwF_all A f m s hm hf n (fun k h1 h2 => h k h1 (by omega))]
    have := h n (by omega) (by omega)
    show (hwS A f m s n (hwF A f m s n)).1 = _
    unfold hwS
    by_cases e : aSe A n = f ∧ aMa A n = m
    · have e2 : aMa A n ≠ -1 ∧ aSe A n * 10 + aMa A n = f * 10 + m := by omega
      rw [if_pos e, if_pos e2]
    · rw [if_neg e, if_neg (by omega)]; omega
theorem msg_all {A : aS} (hA : aOK A) (f m s : Int) (hm : 0 ≤ m ∧ m ≤ 9) (hf : 0 ≤ f) : msg A (f * 10 + m) = (hwF A f m s (aW A).toNat).1 := by
  have h1 := hA.2.1
  refine (hwF_all A f m s hm hf _ (fun k h2 h3 => ?_)).symm
  have := hA.2.2.2.2.1 k h2 (by omega)
  omega
def allH (A : aS) (f m : Int) : Prop := how A f m 0 = 3 ∧ how A f m 1 = 3 ∧ how A f m 2 = 3 ∧ how A f m 3 = 3 ∧ how A f m 4 = 3 ∧ how A f m 5 = 3
def allHd (A : aS) (f m : Int) : Decidable (allH A f m) := by unfold allH; exact inferInstance
def mWd (A : aS) (x : Int) : Int := cnt (fun n => mHe A n = x) (fun _ => inferInstance) (aW A).toNat
def mMs (A : aS) : Int := cnt (fun p => 0 < msg A p) (fun _ => inferInstance) 60
def mWh (A : aS) : Int := cnt (fun p => allH A (p / 10) (p % 10)) (fun p => allHd A (p / 10) (p % 10)) 60
/-- of the numbers of all but the saved states -/
def oAl (A : aS) (w : Int) : Int := if w = 0 then aB A else if w = 1 then aW A else if w = 2 then mWd A 63 else if w = 3 then mWd A 0 else if w = 4 then mMs A else if w = 5 then mWh A else if w = 6 then aSt A 0 else if w = 7 then aSt A 1 else aSt A 2
def why (A : aS) (n s : Int) : Int := if fh A s n ≠ -1 then 0 else if aCo A s n = -1 then 1 else if aB A ≤ aCo A s n then 2 else 3
def sil (A : aS) (n s : Int) : Int := if fh A s n ≠ -1 then 0 else fhF (fun k => vce A s (aB A + k - 1)) n 1 60
/-- from one seat: how many it would come to, the longest delay -/
def bsR (A : aS) (x : Int) : Nat → Int × Int
  | 0 => (0, 0)
  | n + 1 => if dly A x n = -1 then bsR A x n else ((bsR A x n).1 + 1, if (bsR A x n).2 < dly A x n then dly A x n else (bsR A x n).2)
/-- the best so far: the seat, how many, its delay -/
def bsF (A : aS) : Nat → Int × Int × Int
  | 0 => (0, -1, 0)
  | n + 1 => if (bsR A n 6).1 > (bsF A n).2.1 ∨ ((bsR A n 6).1 = (bsF A n).2.1 ∧ (bsR A n 6).2 < (bsF A n).2.2) then ((n : Int), (bsR A n 6).1, (bsR A n 6).2) else bsF A n
def bst (A : aS) : Int := (bsF A 6).1
theorem bsR_rng {A : aS} (hA : aOK A) {x : Int} (hx : 0 ≤ x ∧ x < 6) : ∀ n : Nat, n ≤ 6 → (0 ≤ (bsR A x n).1 ∧ (bsR A x n).1 ≤ n) ∧ (0 ≤ (bsR A x n).2 ∧ (bsR A x n).2 ≤ 19) ∧ ((bsR A x n).1 = 0 → (bsR A x n).2 = 0)
  | 0, _ => ⟨⟨Int.le_refl _, Int.le_refl _⟩, ⟨Int.le_refl _, by show (0 : Int) ≤ 19; decide⟩, fun _ => rfl⟩
  | n + 1, hn => by
    have := bsR_rng hA hx n (by omega)
    have h2 := dly_rng hA hx (y := n) ⟨by omega, by omega⟩
    unfold bsR
    split
    · omega
    · dsimp only
      split <;> omega
theorem bsF_rng {A : aS} (hA : aOK A) : ∀ n : Nat, n ≤ 6 → (0 ≤ (bsF A n).1 ∧ (bsF A n).1 ≤ 5) ∧ (-1 ≤ (bsF A n).2.1 ∧ (bsF A n).2.1 ≤ 6) ∧ (0 ≤ (bsF A n).2.2 ∧ (bsF A n).2.2 ≤ 19)
  | 0, _ => ⟨⟨Int.le_refl _, by show (0 : Int) ≤ 5; decide⟩, ⟨Int.le_refl _, by show (-1 : Int) ≤ 6; decide⟩, Int.le_refl _, by show (0 : Int) ≤ 19; decide⟩
  | n + 1, hn => by
    have := bsF_rng hA n (by omega)
    have h2 := bsR_rng hA (x := n) ⟨by omega, by omega⟩ 6 (by omega)
    unfold bsF
    split
    · dsimp only
      omega
    · omega
/-- of all seats, the beats in which a word was heard -/
def shN (A : aS) : Int := hBt A 0 + hBt A 1 + hBt A 2 + hBt A 3 + hBt A 4 + hBt A 5
def shr (A : aS) : UInt64 := if aB A = 0 then FP.dconst0 else FP.ddiv (FP.i2d (Int32.ofInt (shN A))) (FP.i2d (Int32.ofInt (6 * aB A)))
theorem x_or {k x : Int} (hk : 0 ≤ k ∧ k < 6) (h0 : 0 ≤ x) (h1 : x < 2 ^ k.toNat) : Int32.ofInt x ||| Int32.ofInt (2 ^ k.toNat) = Int32.ofInt (x + 2 ^ k.toNat) := by
  have key : ∀ (k : Fin 6) (x : Fin 32), x.val < 2 ^ k.val → Int32.ofInt (x.val : Int) ||| Int32.ofInt (2 ^ k.val) = Int32.ofInt ((x.val : Int) + 2 ^ k.val) := by decide +kernel
  have hx : x.toNat < 2 ^ k.toNat := by
    have : ((2 ^ k.toNat : Nat) : Int) = (2 : Int) ^ k.toNat := by simp
    omega
  have h5 : 2 ^ k.toNat ≤ 2 ^ 5 := Nat.pow_le_pow_right (by decide) (by omega)
  have := key ⟨k.toNat, by omega⟩ ⟨x.toNat, by omega⟩ hx
  simpa [Int.toNat_of_nonneg h0] using this
theorem x_shl {k : Int} (hk : 0 ≤ k ∧ k < 6) : Int32.ofInt 1 <<< (Int32.ofInt k &&& 31) = Int32.ofInt (2 ^ k.toNat) := by
  rcases (show k = 0 ∨ k = 1 ∨ k = 2 ∨ k = 3 ∨ k = 4 ∨ k = 5 by omega) with rfl | rfl | rfl | rfl | rfl | rfl <;> decide
/-- for m words: the beats in which one of them was heard first, are as many as those of them that were heard -/
theorem hWb_aux {A : aS} (hA : aOK A) {s : Int} (h0 : 0 ≤ s) (h6 : s < 6) : ∀ m : Nat, (m : Int) ≤ aW A → cnt (fun k => (0 ≤ aHe A s k ∧ aHe A s k < m) ∧ fh A s (aHe A s k) = k) (fun _ => inferInstance) (aB A).toNat = cnt (fun n => fh A s n ≠ -1) (fun _ => inferInstance) m
  | 0, _ => by
    have : ∀ n : Nat, cnt (fun k => (0 ≤ aHe A s k ∧ aHe A s k < ((0 : Nat) : Int)) ∧ fh A s (aHe A s k) = k) (fun _ => inferInstance) n = 0 := by
      intro n
      induction n with
      | zero => rfl
      | succ n ih => rw [cnt_add, ih, if_neg (by omega)]; rfl
    exact this _
  | m + 1, hm => by
    rw [cnt_add, ← hWb_aux hA h0 h6 m (by omega)]
    have hr := fh_rng hA s m h0 h6 (by omega) (by omega)
    have hB := hA.1
    -- one beat more where m was heard first
    have key : ∀ n : Nat, cnt (fun k => (0 ≤ aHe A s k ∧ aHe A s k < ((m + 1 : Nat) : Int)) ∧ fh A s (aHe A s k) = k) (fun _ => inferInstance) n = cnt (fun k => (0 ≤ aHe A s k ∧ aHe A s k < (m : Int)) ∧ fh A s (aHe A s k) = k) (fun _ => inferInstance) n + if fh A s m ≠ -1 ∧ aHe A s (fh A s m) = m ∧ 0 ≤ fh A s m ∧ fh A s m < n then 1 else 0 := by
      intro n
      induction n with
      | zero => rw [if_neg (by omega)]; rfl
      | succ n ih =>
        rw [cnt_add, cnt_add, ih]
        by_cases e : aHe A s n = m
        · have e2 : fh A s (aHe A s n) = fh A s m := congrArg (fh A s) e
          by_cases e3 : fh A s m = n
          · have e4 : aHe A s (fh A s m) = m := by rw [e3]; exact e
            rw [if_neg (show ¬ (fh A s ↑m ≠ -1 ∧ aHe A s (fh A s ↑m) = ↑m ∧ 0 ≤ fh A s ↑m ∧ fh A s ↑m < ↑n) by omega), if_pos (by omega), if_neg (show ¬ ((0 ≤ aHe A s ↑n ∧ aHe A s ↑n < ↑m) ∧ _) by omega), if_pos (by omega)]
          · rw [if_neg (show ¬ ((0 ≤ aHe A s ↑n ∧ aHe A s ↑n < ↑(m + 1)) ∧ fh A s (aHe A s ↑n) = ↑n) by omega), if_neg (show ¬ ((0 ≤ aHe A s ↑n ∧ aHe A s ↑n < ↑m) ∧ fh A s (aHe A s ↑n) = ↑n) by omega)]
            by_cases e5 : fh A s ↑m ≠ -1 ∧ aHe A s (fh A s ↑m) = ↑m ∧ 0 ≤ fh A s ↑m ∧ fh A s ↑m < ↑n
            · rw [if_pos e5, if_pos (by omega)]; omega
            · rw [if_neg e5, if_neg (by omega)]
        · have e3 : aHe A s (fh A s m) = m → fh A s m ≠ n := fun z1 z2 => e (by rw [← z2]; exact z1)
          have e6 : (if (0 ≤ aHe A s ↑n ∧ aHe A s ↑n < ↑(m + 1)) ∧ fh A s (aHe A s ↑n) = ↑n then (1 : Int) else 0) = (if (0 ≤ aHe A s ↑n ∧ aHe A s ↑n < ↑m) ∧ fh A s (aHe A s ↑n) = ↑n then (1 : Int) else 0) := by
            by_cases z : (0 ≤ aHe A s ↑n ∧ aHe A s ↑n < ↑m) ∧ fh A s (aHe A s ↑n) = ↑n
            · rw [if_pos z, if_pos (by omega)]
            · rw [if_neg z, if_neg (by omega)]
          have e7 : (if fh A s ↑m ≠ -1 ∧ aHe A s (fh A s ↑m) = ↑m ∧ 0 ≤ fh A s ↑m ∧ fh A s ↑m < ↑(n + 1) then (1 : Int) else 0) = (if fh A s ↑m ≠ -1 ∧ aHe A s (fh A s ↑m) = ↑m ∧ 0 ≤ fh A s ↑m ∧ fh A s ↑m < ↑n then (1 : Int) else 0) := by
            by_cases z : fh A s ↑m ≠ -1 ∧ aHe A s (fh A s ↑m) = ↑m ∧ 0 ≤ fh A s ↑m ∧ fh A s ↑m < ↑n
            · rw [if_pos z, if_pos (by omega)]
            · rw [if_neg z, if_neg ?_]
              rintro ⟨z1, z2, z3, z4⟩
              have := e3 z2
              exact z ⟨z1, z2, z3, by omega⟩
          rw [e6, e7]
          omega
    rw [key]
    have hw := hA.2.2.2.2.1 m (by omega) (by omega)
    rcases hr with e | e
    · rw [if_neg (by omega), if_neg (fun z => z e)]
    · rw [if_pos ⟨by omega, e.2.2, by omega, by omega⟩, if_pos (by omega)]
theorem hWb_eq {A : aS} (hA : aOK A) {s : Int} (h0 : 0 ≤ s) (h6 : s < 6) : hWb A s = hWd A s := by
  have hW := hA.2.1
  have hB := hA.1
  unfold hWb hWd
  rw [← hWb_aux hA h0 h6 (aW A).toNat (by omega)]
  apply cnt_congr
  intro k h1 h2
  have := hA.2.2.2.2.2.2.2 s k h0 h6 h1 (by omega)
  constructor
  · intro h
    exact ⟨by omega, h.2⟩
  · intro h
    exact ⟨by omega, h.2⟩
