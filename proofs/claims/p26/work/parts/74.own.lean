/-! ===== facts of a chamber ===== -/
/-- what was heard had come, and in time -/
def aInv (A : aS) : Prop := ∀ s k, 0 ≤ s → s < 6 → 0 ≤ k → k < aB A → aHe A s k = -1 ∨ (0 ≤ aCo A s (aHe A s k) ∧ aCo A s (aHe A s k) ≤ k)
theorem aInv_new : aInv aNew := fun s k _ _ h0 h1 => absurd h1 (by show ¬ k < 0; omega)
theorem aInv_end {A : aS} (hA : aOK A) (hI : aInv A) : aInv (aEnd A) := fun s k h1 h2 h3 h4 => by
  have h4 : k < aB A + 1 := h4
  show (if k = aB A then vce A s (aB A) else aHe A s k) = -1 ∨ (0 ≤ aCo A s (if k = aB A then vce A s (aB A) else aHe A s k) ∧ aCo A s (if k = aB A then vce A s (aB A) else aHe A s k) ≤ k)
  by_cases e : k = aB A
  · rw [if_pos e]
    rcases vce_rng hA s (aB A) h1 h2 with q | q
    · exact Or.inl q
    · obtain ⟨q1, q2, q3, q4⟩ := q
      unfold vOk at q4
      exact Or.inr ⟨q4.1, by omega⟩
  · rw [if_neg e]
    exact hI s k h1 h2 h3 (by omega)
theorem aInv_add {A : aS} (hA : aOK A) (hI : aInv A) {s w m : Int} : aInv (aAdd A s w m) := fun q k h1 h2 h3 h4 => by
  rcases hI q k h1 h2 h3 h4 with e | e
  · exact Or.inl e
  · rcases hA.2.2.2.2.2.2.2 q k h1 h2 h3 h4 with f | f
    · exact Or.inl f
    · right
      show 0 ≤ (if aHe A q k = aW A then (if dly A s q = -1 then -1 else aB A + dly A s q) else aCo A q (aHe A q k)) ∧ (if aHe A q k = aW A then (if dly A s q = -1 then -1 else aB A + dly A s q) else aCo A q (aHe A q k)) ≤ k
      rw [if_neg (by omega)]
      exact e
theorem aInv_rest {A : aS} (hA : aOK A) (hp : aPast A) (hI : aInv A) : ∀ n : Nat, aB A + n ≤ 400 → aInv (aRest A n)
  | 0, _ => hI
  | n + 1, h => aInv_end (aPast_rest hA hp n (by omega)).2 (aInv_rest hA hp hI n (by omega))
theorem aInv_wl {A : aS} (hI : aInv A) (s k : Int) : aInv (aSWl A s k) := hI
theorem aInv_st {A : aS} (hI : aInv A) (s k : Int) : aInv (aSSt A s k) := hI
theorem aInv_say {A : aS} (hA : aOK A) (hp : aPast A) (hI : aInv A) {s w m : Int} (hs : 0 ≤ s ∧ s < 6) (hw : 1 ≤ w ∧ w ≤ 99) (hm : -1 ≤ m ∧ m ≤ 9) (hW : aW A < 200) : aInv (aEnd (aAdd A s w m)) := aInv_end (aAdd_ok hA hp hW hs hw hm) (aInv_add hA hI)
theorem aW_le {A : aS} (hA : aOK A) (hp : aPast A) : aW A ≤ aB A := by
  have h1 := hA.1
  have h2 := hA.2.1
  have key : ∀ n : Nat, (n : Int) < aW A → (n : Int) ≤ aAt A n := by
    intro n
    induction n with
    | zero =>
      intro h
      have := hA.2.2.2.2.1 0 (by omega) (by omega)
      show (0 : Int) ≤ aAt A 0
      omega
    | succ n ih =>
      intro h
      have a1 := ih (by omega)
      have a2 := hA.2.2.2.2.2.1 (n : Int) ((n + 1 : Nat) : Int) (by omega) (by omega) h
      omega
  by_cases e : aW A = 0
  · omega
  · have k1 := key (aW A - 1).toNat (by omega)
    rw [show (((aW A - 1).toNat : Nat) : Int) = aW A - 1 by omega] at k1
    have k2 := hp (aW A - 1) (by omega) (by omega)
    omega
theorem gp_le (g : Int → Int) : ∀ n : Nat, (gpF g n).1 + (gpF g n).2.1 ≤ cnt (fun k => g k ≠ -1) (fun _ => inferInstance) n
  | 0 => Int.le_refl _
  | n + 1 => by
    have ih := gp_le g n
    have hr := gpF_rng g n
    rw [cnt_add]
    unfold gpF
    by_cases e : g n = -1
    · rw [if_pos e, if_neg (fun z => z e)]
      show (gpF g n).1 + (gpF g n).2.1 ≤ _
      omega
    · rw [if_neg e, if_pos e]
      show (gpF g n).1 + (if (gpF g n).2.1 = 1 ∧ (gpF g n).2.2 = 1 then 1 else 0) + 1 ≤ _
      split <;> omega
theorem gap_le (A : aS) (s : Int) : gap A s ≤ hBt A s := by
  have h1 := gp_le (aHe A s) (aB A).toNat
  have h2 := gpF_rng (aHe A s) (aB A).toNat
  unfold gap hBt
  omega
theorem fh_of {A : aS} (hA : aOK A) {s k : Int} (h1 : 0 ≤ s) (h2 : s < 6) (h3 : 0 ≤ k) (h4 : k < aB A) (h : aHe A s k ≠ -1) : fh A s (aHe A s k) ≠ -1 := by
  have h5 := (hA.2.2.2.2.2.2.2 s k h1 h2 h3 h4).resolve_left h
  have h6 := hA.2.2.2.2.1 (aHe A s k) h5.1 h5.2.1
  intro z
  rcases fhF_eq (aHe A s) (aHe A s k) (aB A - aAt A (aHe A s k)).toNat (aAt A (aHe A s k)) with e | e
  · exact e.2 k h5.2.2 (by omega) rfl
  · have z' : fhF (aHe A s) (aHe A s k) (aAt A (aHe A s k)) (aB A - aAt A (aHe A s k)).toNat = -1 := z
    omega
theorem co_of_fh {A : aS} (hA : aOK A) (hI : aInv A) {s n : Int} (h1 : 0 ≤ s) (h2 : s < 6) (h3 : 0 ≤ n) (h4 : n < aW A) (h : fh A s n ≠ -1) : 0 ≤ aCo A s n := by
  have h0 := hA.2.2.2.2.1 n h3 h4
  obtain ⟨r1, r2, r3⟩ := (fh_rng hA s n h1 h2 h3 h4).resolve_left h
  rcases hI s (fh A s n) h1 h2 (by omega) r2 with e | e
  · rw [r3] at e; omega
  · rw [r3] at e; exact e.1
/-- behind a rest: what was heard of silence -/
theorem rest_he (A : aS) (s : Int) : ∀ n : Nat, aHe (aRest A (n + 1)) s (aB A) = vce A s (aB A)
  | 0 => if_pos rfl
  | n + 1 => by
    have h1 := rest_he A s n
    have h2 := aB_rest A (n + 1)
    show (if aB A = aB (aRest A (n + 1)) then _ else aHe (aRest A (n + 1)) s (aB A)) = _
    rw [if_neg (by omega)]
    exact h1
/-! bits -/
def bti (b : Bool) (x : Int) : Int := match b with
  | true => x
  | false => 0
def mk6 (b0 b1 b2 b3 b4 b5 : Bool) : Int := bti b0 1 + bti b1 2 + bti b2 4 + bti b3 8 + bti b4 16 + bti b5 32
theorem mkF_6 {P : Int → Prop} {d : ∀ k, Decidable (P k)} : mkF P d 6 = mk6 (@decide (P 0) (d 0)) (@decide (P 1) (d 1)) (@decide (P 2) (d 2)) (@decide (P 3) (d 3)) (@decide (P 4) (d 4)) (@decide (P 5) (d 5)) := by
  have key : ∀ (k : Nat) (x : Int), (2 : Int) ^ k = x → (if P (k : Int) then (2 : Int) ^ k else 0) = bti (@decide (P k) (d k)) x := by
    intro k x hx
    cases hd : d k with
    | isTrue h => rw [if_pos h]; exact hx
    | isFalse h => rw [if_neg h]; rfl
  have e0 : mkF P d 0 = 0 := rfl
  rw [show (6 : Nat) = 5 + 1 from rfl, mkF_add, show (5 : Nat) = 4 + 1 from rfl, mkF_add, show (4 : Nat) = 3 + 1 from rfl, mkF_add, show (3 : Nat) = 2 + 1 from rfl, mkF_add, show (2 : Nat) = 1 + 1 from rfl, mkF_add, show (1 : Nat) = 0 + 1 from rfl, mkF_add, e0]
  rw [key (0 + 1 + 1 + 1 + 1 + 1) 32 rfl, key (0 + 1 + 1 + 1 + 1) 16 rfl, key (0 + 1 + 1 + 1) 8 rfl, key (0 + 1 + 1) 4 rfl, key (0 + 1) 2 rfl, key 0 1 rfl, Int.zero_add]
  rfl
def shz (x s : Int) : Int := (Int32.ofInt x >>> (Int32.ofInt s &&& 31)).toInt
theorem shz_eq (x s : Int) : Int32.ofInt x >>> (Int32.ofInt s &&& 31) = Int32.ofInt (shz x s) := (Int32.ofInt_toInt _).symm
theorem mk6_bit : ∀ (b0 b1 b2 b3 b4 b5 : Bool) (s : Fin 6), (Int32.ofInt (mk6 b0 b1 b2 b3 b4 b5) >>> (Int32.ofInt (s.val : Int) &&& 31)) &&& Int32.ofInt 1 = Int32.ofInt (bti (match s with | 0 => b0 | 1 => b1 | 2 => b2 | 3 => b3 | 4 => b4 | 5 => b5) 1) := by decide +kernel
theorem mkF_bit {P : Int → Prop} {d : ∀ k, Decidable (P k)} {s : Int} (h0 : 0 ≤ s) (h6 : s < 6) : ∃ z, Int32.ofInt (shz (mkF P d 6) s) &&& Int32.ofInt 1 = Int32.ofInt z ∧ ((P s ∧ z = 1) ∨ (¬ P s ∧ z = 0)) := by
  refine ⟨bti (@decide (P s) (d s)) 1, ?_, ?_⟩
  · rw [← shz_eq, mkF_6]
    rcases (show s = 0 ∨ s = 1 ∨ s = 2 ∨ s = 3 ∨ s = 4 ∨ s = 5 by omega) with rfl | rfl | rfl | rfl | rfl | rfl
    · exact mk6_bit _ _ _ _ _ _ 0
    · exact mk6_bit _ _ _ _ _ _ 1
    · exact mk6_bit _ _ _ _ _ _ 2
    · exact mk6_bit _ _ _ _ _ _ 3
    · exact mk6_bit _ _ _ _ _ _ 4
    · exact mk6_bit _ _ _ _ _ _ 5
  · cases d s with
    | isTrue h => exact Or.inl ⟨h, rfl⟩
    | isFalse h => exact Or.inr ⟨h, rfl⟩
theorem mk6_not : ∀ (c0 c1 c2 c3 c4 c5 : Bool), Int32.ofInt (mk6 c0 c1 c2 c3 c4 c5) ^^^ Int32.ofInt (-1) = Int32.ofInt (-1 - mk6 c0 c1 c2 c3 c4 c5) := by decide +kernel
theorem mk6_sub : ∀ (b0 b1 b2 b3 b4 b5 c0 c1 c2 c3 c4 c5 : Bool), (b0 = true → c0 = true) → (b1 = true → c1 = true) → (b2 = true → c2 = true) → (b3 = true → c3 = true) → (b4 = true → c4 = true) → (b5 = true → c5 = true) → Int32.ofInt (mk6 b0 b1 b2 b3 b4 b5) &&& Int32.ofInt (-1 - mk6 c0 c1 c2 c3 c4 c5) = Int32.ofInt 0 := by decide +kernel
theorem mCo_not (A : aS) (n : Int) : Int32.ofInt (mCo A n) ^^^ Int32.ofInt (-1) = Int32.ofInt (-1 - mCo A n) := by
  unfold mCo
  rw [mkF_6]
  exact mk6_not _ _ _ _ _ _
theorem mHe_sub {A : aS} (hA : aOK A) (hI : aInv A) {n : Int} (h3 : 0 ≤ n) (h4 : n < aW A) : Int32.ofInt (mHe A n) &&& Int32.ofInt (-1 - mCo A n) = Int32.ofInt 0 := by
  unfold mCo mHe
  rw [mkF_6, mkF_6]
  have key : ∀ s : Int, 0 ≤ s → s < 6 → decide (fh A s n ≠ -1) = true → decide (aCo A s n ≠ -1) = true := fun s h1 h2 h => by
    have := co_of_fh hA hI h1 h2 h3 h4 (of_decide_eq_true h)
    exact decide_eq_true (by omega)
  exact mk6_sub _ _ _ _ _ _ _ _ _ _ _ _ (key 0 (by decide) (by decide)) (key 1 (by decide) (by decide)) (key 2 (by decide) (by decide)) (key 3 (by decide) (by decide)) (key 4 (by decide) (by decide)) (key 5 (by decide) (by decide))
theorem mHe_rng (A : aS) (n : Int) : 0 ≤ mHe A n ∧ mHe A n < 64 := mkF_rng _ _ 6
theorem mCo_rng (A : aS) (n : Int) : 0 ≤ mCo A n ∧ mCo A n < 64 := mkF_rng _ _ 6
theorem mCo_bit (A : aS) (n : Int) {s : Int} (h0 : 0 ≤ s) (h6 : s < 6) : ∃ z, Int32.ofInt (shz (mCo A n) s) &&& Int32.ofInt 1 = Int32.ofInt z ∧ ((aCo A s n ≠ -1 ∧ z = 1) ∨ (¬ aCo A s n ≠ -1 ∧ z = 0)) := mkF_bit (P := fun s => aCo A s n ≠ -1) h0 h6
theorem mHe_bit (A : aS) (n : Int) {s : Int} (h0 : 0 ≤ s) (h6 : s < 6) : ∃ z, Int32.ofInt (shz (mHe A n) s) &&& Int32.ofInt 1 = Int32.ofInt z ∧ ((fh A s n ≠ -1 ∧ z = 1) ∨ (¬ fh A s n ≠ -1 ∧ z = 0)) := mkF_bit (P := fun s => fh A s n ≠ -1) h0 h6
theorem shz_rng (x s : Int) : inR (shz x s) := ⟨Int32.le_toInt _, Int32.toInt_lt _⟩
theorem hwF_two (A : aS) (f m s s' : Int) : ∀ n : Nat, (hwF A f m s n).1 = (hwF A f m s' n).1
  | 0 => rfl
  | n + 1 => by
    have ih := hwF_two A f m s s' n
    unfold hwF hwS
    by_cases e : aSe A n = f ∧ aMa A n = m
    · rw [if_pos e, if_pos e]
      show (hwF A f m s n).1 + 1 = (hwF A f m s' n).1 + 1
      rw [ih]
    · rw [if_neg e, if_neg e]
      exact ih
theorem how_all (A : aS) (f m s s' : Int) : how A f m s = -1 ↔ how A f m s' = -1 := by
  have h := hwF_two A f m s s' (aW A).toNat
  have key : ∀ s, how A f m s = -1 ↔ (hwF A f m s (aW A).toNat).1 = 0 := fun s => by
    unfold how
    constructor
    · intro z
      split at z
      · assumption
      · split at z
        · cases z
        · split at z
          · cases z
          · split at z <;> cases z
    · intro z
      rw [if_pos z]
  rw [key, key, h]
theorem bst_new : bst aNew = 0 := by decide +kernel
/-! of a line -/
def lI (L : lS) : Prop := aInv (lA L) ∧ (∀ i, 0 ≤ i → i < lZ L → aInv (lSv L i)) ∧ (lKf L = 1 → aInv (lK L))
theorem lI_save {L : lS} {A : aS} (h : lI L) (hz : 0 ≤ lZ L ∧ lZ L ≤ 6) (hA : aInv A) : lI (sA (sSave L) A) := by
  refine ⟨hA, fun i h0 h1 => ?_, h.2.2⟩
  have h1 : i < psz (lZ L) := h1
  show aInv (psh (lZ L) (lSv L) (lA L) i)
  unfold psh
  unfold psz at h1 ⊢
  by_cases e6 : lZ L = 6
  · rw [if_pos e6] at h1 ⊢
    by_cases e : i = 6 - 1
    · rw [if_pos e]; exact h.1
    · rw [if_neg e, if_pos e6]; exact h.2.1 _ (by omega) (by omega)
  · rw [if_neg e6] at h1 ⊢
    by_cases e : i = lZ L + 1 - 1
    · rw [if_pos e]; exact h.1
    · rw [if_neg e, if_neg e6]; exact h.2.1 _ (by omega) (by omega)
theorem lI_undo {L : lS} (h : lI L) (hz : 0 < lZ L) : lI (sZ (sA L (lSv L (lZ L - 1))) (lZ L - 1)) := ⟨h.2.1 _ (by omega) (by omega), fun i h0 h1 => h.2.1 i h0 (by have h1 : i < lZ L - 1 := h1; omega), h.2.2⟩
theorem lI_keep {L : lS} (h : lI L) : lI (sK L) := ⟨h.1, h.2.1, fun _ => h.1⟩
/-- what is saved last -/
theorem psh_last {z : Int} {Sv : Int → aS} {A : aS} : psh z Sv A (psz z - 1) = A := if_pos rfl
theorem psz_rng {z : Int} (h : 0 ≤ z ∧ z ≤ 6) : 1 ≤ psz z ∧ psz z ≤ 6 ∧ ((z = 6 ∧ psz z = 6) ∨ (z < 6 ∧ psz z = z + 1)) := by
  unfold psz
  by_cases e : z = 6
  · rw [if_pos e]; omega
  · rw [if_neg e]; omega
theorem fp_quo1 {c d : Nat} {e : Int} (hc : 4503599627370496 ≤ c ∧ c < 9007199254740992) (hd : 4503599627370496 ≤ d ∧ d < 9007199254740992) (he : -900 ≤ e) (he0 : e ≤ 0) (hle : e = 0 → c ≤ d) : ∃ E t : Nat, 1 ≤ E ∧ E ≤ 1023 ∧ t < 4503599627370496 ∧ (E = 1023 → t = 0) ∧ FP.Core.encode FP.Core.b64 (FP.Core.roundRatio FP.Core.b64 false c d e) = E * 4503599627370496 + t := by
  have hlc : c.log2 = 52 := (Nat.log2_eq_iff (by omega)).mpr hc
  have hld : d.log2 = 52 := (Nat.log2_eq_iff (by omega)).mpr hd
  have key : ∀ (C : Nat) (q : Int), 4503599627370496 ≤ C → C ≤ 9007199254740992 → -1000 ≤ q → (q ≤ -53 ∨ (q = -52 ∧ C = 4503599627370496)) → ∃ E t : Nat, 1 ≤ E ∧ E ≤ 1023 ∧ t < 4503599627370496 ∧ (E = 1023 → t = 0) ∧ FP.Core.encode FP.Core.b64 (FP.Core.settle FP.Core.b64 false C q) = E * 4503599627370496 + t := by
    intro C q g1 g2 g3 g4
    by_cases g5 : C < 9007199254740992
    · rw [fp_set g5 (by omega), fp_enc g1]
      exact ⟨(q + 1074).toNat + 1, C - 4503599627370496, by omega, by omega, by omega, by omega, rfl⟩
    · have g6 : C = 9007199254740992 := by omega
      rw [g6, fp_set2 (by omega), fp_enc (Nat.le_refl _)]
      exact ⟨(q + 1 + 1074).toNat + 1, 0, by omega, by omega, by omega, by omega, rfl⟩
  by_cases hcd : d ≤ c
  · have hl : FP.Core.leading c d = 0 := by
      unfold FP.Core.leading
      rw [hlc, hld]
      dsimp only
      rw [show (((52 : Nat) : Int) - ((52 : Nat) : Int)).toNat = 0 by decide, show (-(((52 : Nat) : Int) - ((52 : Nat) : Int))).toNat = 0 by decide, if_pos (by rw [Nat.pow_zero]; omega)]
      decide
    have hq : FP.Core.quantum FP.Core.b64 c d e = e - 52 := by
      unfold FP.Core.quantum
      rw [hl, show FP.Core.b64.qmin = -1074 by decide, show ((FP.Core.b64.p : Int) - 1) = 52 by decide]
      omega
    unfold FP.Core.roundRatio
    rw [if_neg (by omega), hq]
    unfold FP.Core.roundAt FP.Core.unitsNum FP.Core.unitsDen
    rw [show (e - (e - 52)).toNat = 52 by omega, show (e - 52 - e).toNat = 0 by omega, Nat.pow_zero, Nat.mul_one, show (2 : Nat) ^ 52 = 4503599627370496 from rfl]
    obtain ⟨n1, n2⟩ := fp_nearR (a := c * 4503599627370496) (d := d) (lo := 4503599627370496) (hi := 9007199254740992) (by omega) (by omega) (by omega)
    refine key _ _ n1 n2 (by omega) ?_
    by_cases z : e = 0
    · have z2 : c = d := by have := hle z; omega
      refine Or.inr ⟨by omega, ?_⟩
      rw [z2, Nat.mul_comm, fp_near _ (by omega)]
    · exact Or.inl (by omega)
  · have hl : FP.Core.leading c d = -1 := by
      unfold FP.Core.leading
      rw [hlc, hld]
      dsimp only
      rw [show (((52 : Nat) : Int) - ((52 : Nat) : Int)).toNat = 0 by decide, show (-(((52 : Nat) : Int) - ((52 : Nat) : Int))).toNat = 0 by decide, if_neg (by rw [Nat.pow_zero]; omega)]
      decide
    have hq : FP.Core.quantum FP.Core.b64 c d e = e - 53 := by
      unfold FP.Core.quantum
      rw [hl, show FP.Core.b64.qmin = -1074 by decide, show ((FP.Core.b64.p : Int) - 1) = 52 by decide]
      omega
    unfold FP.Core.roundRatio
    rw [if_neg (by omega), hq]
    unfold FP.Core.roundAt FP.Core.unitsNum FP.Core.unitsDen
    rw [show (e - (e - 53)).toNat = 53 by omega, show (e - 53 - e).toNat = 0 by omega, Nat.pow_zero, Nat.mul_one, show (2 : Nat) ^ 53 = 9007199254740992 from rfl]
    obtain ⟨n1, n2⟩ := fp_nearR (a := c * 9007199254740992) (d := d) (lo := 4503599627370496) (hi := 9007199254740992) (by omega) (by omega) (by omega)
    exact key _ _ n1 n2 (by omega) (Or.inl (by omega))
theorem fp_share1 {p q : Nat} (hp : 0 < p) (hpq : p ≤ q) (hq : q < 4000) : ∃ E t : Nat, 1 ≤ E ∧ E ≤ 1023 ∧ t < 4503599627370496 ∧ (E = 1023 → t = 0) ∧ FP.ddiv (FP.i2d (Int32.ofInt (p : Int))) (FP.i2d (Int32.ofInt (q : Int))) = fpN E t := by
  obtain ⟨hc, hlp, hdp⟩ := fp_i2d hp (by omega)
  obtain ⟨hd, hlq, hdq⟩ := fp_i2d (show 0 < q by omega) hq
  have b1 := Nat.log2_self_le (n := p) (by omega)
  have b2 := Nat.lt_log2_self (n := q)
  have hlog : p.log2 ≤ q.log2 := by
    by_cases z : p.log2 ≤ q.log2
    · exact z
    · exfalso
      have := Nat.pow_le_pow_right (n := 2) (by decide) (show q.log2 + 1 ≤ p.log2 by omega)
      omega
  obtain ⟨E, t, h1, h2, h3, h5, h4⟩ := fp_quo1 (c := p * 2 ^ (52 - p.log2)) (d := q * 2 ^ (52 - q.log2)) (e := (p.log2 : Int) - 52 - ((q.log2 : Int) - 52)) hc hd (by omega) (by omega) (fun z => by
    rw [show p.log2 = q.log2 by omega]
    exact Nat.mul_le_mul_right _ hpq)
  refine ⟨E, t, h1, h2, h3, h5, ?_⟩
  show UInt64.ofNat (FP.Core.encode FP.Core.b64 (FP.Core.quotient FP.Core.b64 (FP.Core.decode FP.Core.b64 (FP.i2d (Int32.ofInt (p : Int))).toNat) (FP.Core.decode FP.Core.b64 (FP.i2d (Int32.ofInt (q : Int))).toNat))) = _
  rw [hdp, hdq]
  unfold FP.Core.quotient
  dsimp only
  rw [if_neg (by omega)]
  unfold fpN
  rw [← h4]
  rfl
theorem fp_gt0l {E t : Nat} (h1 : 1 ≤ E) (h2 : E ≤ 1023) (h3 : t < 4503599627370496) : Op.cmpValue (FP.dcmp (fpN E t) FP.dconst0) .l = Int32.ofInt 1 := by
  have hx : FP.dcmp (fpN E t) FP.dconst0 = some .gt := by
    show FP.Core.order (FP.Core.decode FP.Core.b64 (fpN E t).toNat) (FP.Core.decode FP.Core.b64 (FP.dconst0).toNat) = _
    rw [fpN_nat (by omega) h3, fp_dec h1 (by omega) h3, show FP.Core.decode FP.Core.b64 (FP.dconst0).toNat = .fin false 0 (-1074) by decide +kernel]
    unfold FP.Core.order
    dsimp only
    rw [show min ((E : Int) - 1075) (-1074) = -1074 by omega]
    refine congrArg some (Int.compare_eq_gt.mpr ?_)
    show ((FP.Core.inUnits 0 (-1074) (-1074) : Nat) : Int) < ((FP.Core.inUnits (4503599627370496 + t) ((E : Int) - 1075) (-1074) : Nat) : Int)
    unfold FP.Core.inUnits
    rw [Nat.zero_mul]
    have := Nat.mul_pos (show 0 < 4503599627370496 + t by omega) (Nat.two_pow_pos ((E : Int) - 1075 - -1074).toNat)
    omega
  rw [hx]
  rfl
/-- the digest hangs on the state of now, on the number of saved states and on the text alone -/
theorem dig_eq {L L' : lS} (h1 : lA L' = lA L) (h2 : lZ L' = lZ L) (h3 : L'.2.2.2 = L.2.2.2) : dig L' = dig L := by
  obtain ⟨A, ⟨z, Sv⟩, ⟨f, K⟩, t⟩ := L
  obtain ⟨A', ⟨z', Sv'⟩, ⟨f', K'⟩, t'⟩ := L'
  have e1 : A' = A := h1
  have e2 : z' = z := h2
  have e3 : t' = t := h3
  subst e1; subst e2; subst e3
  rfl
theorem shr_1 {A : aS} (hA : aOK A) : shr A = 0 ∨ ∃ E t : Nat, 1 ≤ E ∧ E ≤ 1023 ∧ t < 4503599627370496 ∧ (E = 1023 → t = 0) ∧ shr A = fpN E t := by
  have h1 := shN_rng hA
  have h2 := hA.1
  unfold shr
  by_cases e : aB A = 0
  · rw [if_pos e]; exact Or.inl rfl
  · rw [if_neg e]
    have e1 : shN A = ((shN A).toNat : Int) := by omega
    have e2 : 6 * aB A = ((6 * aB A).toNat : Int) := by omega
    by_cases e3 : shN A = 0
    · rw [e3, e2]
      exact Or.inl (fp_share0 (by omega) (by omega))
    · rw [e1, e2]
      exact Or.inr (fp_share1 (by omega) (by omega) (by omega))
theorem shr_ge {A : aS} (hA : aOK A) : ∃ z, Op.cmpValue (FP.dcmp (shr A) FP.dconst0) .l = Int32.ofInt z ∧ 0 ≤ z ∧ z ≤ 1 := by
  rcases shr_1 hA with h | ⟨E, t, h1, h2, h3, h5, h4⟩
  · rw [h]; exact ⟨0, by decide +kernel, by decide, by decide⟩
  · rw [h4]; exact ⟨1, fp_gt0l h1 h2 h3, by decide, by decide⟩
theorem shr_le {A : aS} (hA : aOK A) : ∃ z, Op.cmpValue (FP.dcmp (shr A) FP.dconst1) .g = Int32.ofInt z ∧ -1 ≤ z ∧ z ≤ 0 := by
  rcases shr_1 hA with h | ⟨E, t, h1, h2, h3, h5, h4⟩
  · rw [h]; exact ⟨-1, by decide +kernel, by decide, by decide⟩
  · rw [h4]
    by_cases e : E = 1023
    · have e2 := h5 e
      subst e; subst e2
      exact ⟨0, by decide +kernel, by decide, by decide⟩
    · obtain ⟨z, z1, z2⟩ := fp_cmp1 h1 h2 h3
      exact ⟨z, z1, by omega, by omega⟩
