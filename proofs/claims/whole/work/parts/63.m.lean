/-! ===== the text: signs read one by one, what a part is ===== -/
def nx (st c : Int) : Int :=
  if st = 0 then (if c = 46 then 6 else if 48 ≤ c ∧ c ≤ 53 then 1 else -1)
  else if st = 1 then (if c = 58 then 2 else -1)
  else if st = 2 then (if 49 ≤ c ∧ c ≤ 57 then 3 else -1)
  else if st = 3 then (if 48 ≤ c ∧ c ≤ 57 then 4 else if c = 44 then 2 else if c = 35 then 5 else if c = 59 then 0 else -1)
  else if st = 4 then (if c = 44 then 2 else if c = 35 then 5 else if c = 59 then 0 else -1)
  else if st = 5 then (if 48 ≤ c ∧ c ≤ 57 then 9 else -1)
  else if st = 6 then (if 49 ≤ c ∧ c ≤ 52 then 7 else if c = 53 then 8 else if 54 ≤ c ∧ c ≤ 57 then 9 else -1)
  else if st = 7 then (if 48 ≤ c ∧ c ≤ 57 then 9 else if c = 59 then 0 else -1)
  else if st = 8 then (if c = 48 then 9 else if c = 59 then 0 else -1)
  else if st = 9 then (if c = 59 then 0 else -1)
  else -1
theorem nx_0 (c : Int) : nx 0 c = if c = 46 then 6 else if 48 ≤ c ∧ c ≤ 53 then 1 else -1 := rfl
theorem nx_1 (c : Int) : nx 1 c = if c = 58 then 2 else -1 := rfl
theorem nx_2 (c : Int) : nx 2 c = if 49 ≤ c ∧ c ≤ 57 then 3 else -1 := rfl
theorem nx_3 (c : Int) : nx 3 c = if 48 ≤ c ∧ c ≤ 57 then 4 else if c = 44 then 2 else if c = 35 then 5 else if c = 59 then 0 else -1 := rfl
theorem nx_4 (c : Int) : nx 4 c = if c = 44 then 2 else if c = 35 then 5 else if c = 59 then 0 else -1 := rfl
theorem nx_5 (c : Int) : nx 5 c = if 48 ≤ c ∧ c ≤ 57 then 9 else -1 := rfl
theorem nx_6 (c : Int) : nx 6 c = if 49 ≤ c ∧ c ≤ 52 then 7 else if c = 53 then 8 else if 54 ≤ c ∧ c ≤ 57 then 9 else -1 := rfl
theorem nx_7 (c : Int) : nx 7 c = if 48 ≤ c ∧ c ≤ 57 then 9 else if c = 59 then 0 else -1 := rfl
theorem nx_8 (c : Int) : nx 8 c = if c = 48 then 9 else if c = 59 then 0 else -1 := rfl
theorem nx_9 (c : Int) : nx 9 c = if c = 59 then 0 else -1 := rfl
theorem nx_no {st : Int} (c : Int) (h : st < 0 ∨ 9 < st) : nx st c = -1 := by
  unfold nx
  rw [if_neg (by omega), if_neg (by omega), if_neg (by omega), if_neg (by omega), if_neg (by omega), if_neg (by omega), if_neg (by omega), if_neg (by omega), if_neg (by omega), if_neg (by omega)]
theorem st_cases {st : Int} (h : 0 ≤ st ∧ st ≤ 9) : st = 0 ∨ st = 1 ∨ st = 2 ∨ st = 3 ∨ st = 4 ∨ st = 5 ∨ st = 6 ∨ st = 7 ∨ st = 8 ∨ st = 9 := by omega
theorem nx_rng (st c : Int) : -1 ≤ nx st c ∧ nx st c ≤ 9 := by
  by_cases h : 0 ≤ st ∧ st ≤ 9
  · rcases st_cases h with rfl | rfl | rfl | rfl | rfl | rfl | rfl | rfl | rfl | rfl
    · rw [nx_0]; omega
    · rw [nx_1]; omega
    · rw [nx_2]; omega
    · rw [nx_3]; omega
    · rw [nx_4]; omega
    · rw [nx_5]; omega
    · rw [nx_6]; omega
    · rw [nx_7]; omega
    · rw [nx_8]; omega
    · rw [nx_9]; omega
  · rw [nx_no c (by omega)]; omega
/-- a part's end: a semicolon leads to the start, from an end alone -/
theorem nx_59 {st : Int} (h : nx st 59 ≠ -1) : nx st 59 = 0 ∧ (st = 3 ∨ st = 4 ∨ st = 7 ∨ st = 8 ∨ st = 9) := by
  by_cases q : 0 ≤ st ∧ st ≤ 9
  · rcases st_cases q with rfl | rfl | rfl | rfl | rfl | rfl | rfl | rfl | rfl | rfl
    · rw [nx_0] at h ⊢; omega
    · rw [nx_1] at h ⊢; omega
    · rw [nx_2] at h ⊢; omega
    · rw [nx_3] at h ⊢; omega
    · rw [nx_4] at h ⊢; omega
    · rw [nx_5] at h ⊢; omega
    · rw [nx_6] at h ⊢; omega
    · rw [nx_7] at h ⊢; omega
    · rw [nx_8] at h ⊢; omega
    · rw [nx_9] at h ⊢; omega
  · exact absurd (nx_no 59 (by omega)) h
theorem nx_35 {st : Int} (h : nx st 35 ≠ -1) : nx st 35 = 5 ∧ (st = 3 ∨ st = 4) := by
  by_cases q : 0 ≤ st ∧ st ≤ 9
  · rcases st_cases q with rfl | rfl | rfl | rfl | rfl | rfl | rfl | rfl | rfl | rfl
    · rw [nx_0] at h ⊢; omega
    · rw [nx_1] at h ⊢; omega
    · rw [nx_2] at h ⊢; omega
    · rw [nx_3] at h ⊢; omega
    · rw [nx_4] at h ⊢; omega
    · rw [nx_5] at h ⊢; omega
    · rw [nx_6] at h ⊢; omega
    · rw [nx_7] at h ⊢; omega
    · rw [nx_8] at h ⊢; omega
    · rw [nx_9] at h ⊢; omega
  · exact absurd (nx_no 35 (by omega)) h
/-- the reader's state behind k signs -/
def rnF (G : Int → Int) : Nat → Int
  | 0 => 0
  | k + 1 => nx (rnF G k) (G k)
def rn (G : Int → Int) (k : Int) : Int := rnF G k.toNat
theorem rn_at {G : Int → Int} {k : Int} (h0 : 0 ≤ k) : rn G (k + 1) = nx (rn G k) (G k) := by
  have e : ((k.toNat : Nat) : Int) = k := by omega
  unfold rn
  rw [show (k + 1).toNat = k.toNat + 1 by omega, show rnF G (k.toNat + 1) = nx (rnF G k.toNat) (G (k.toNat : Nat)) from rfl, e]
theorem rn_st {G : Int → Int} {k st : Int} (h0 : 0 ≤ k) (h : rn G k = st) : rn G (k + 1) = nx st (G k) := by rw [rn_at h0, h]
theorem rn_rng (G : Int → Int) (k : Int) : -1 ≤ rn G k ∧ rn G k ≤ 9 := by
  unfold rn
  generalize k.toNat = c
  cases c with
  | zero => show (-1 : Int) ≤ 0 ∧ (0 : Int) ≤ 9; omega
  | succ c => exact nx_rng _ _
def acc (st : Int) : Prop := st = 3 ∨ st = 4 ∨ st = 7 ∨ st = 8 ∨ st = 9
def accd (st : Int) : Decidable (acc st) := by unfold acc; exact inferInstance
theorem rn_dead {G : Int → Int} {k : Int} (h0 : 0 ≤ k) (hk : rn G k = -1) : ∀ c : Nat, rn G (k + c) = -1
  | 0 => by rw [show k + ((0 : Nat) : Int) = k by omega]; exact hk
  | c + 1 => by
    have := rn_dead h0 hk c
    rw [show k + ((c + 1 : Nat) : Int) = k + c + 1 by omega, rn_at (by omega), this]
    exact nx_no _ (by omega)
/-- of a complete text no place is wrong -/
theorem rn_ok {G : Int → Int} {n k : Int} (hC : acc (rn G n)) (h0 : 0 ≤ k) (h1 : k ≤ n) : rn G k ≠ -1 := by
  intro e
  have := rn_dead h0 e (n - k).toNat
  rw [show k + ((n - k).toNat : Int) = n by omega] at this
  unfold acc at hC
  omega
def EPl (G : Int → Int) (n r : Int) : Prop := (0 ≤ r ∧ r ≤ n) ∧ rn G r ≠ -1 ∧ (r < n → rn G (r + 1) = -1)
theorem EPl.uniq {G : Int → Int} {n r r' : Int} (h : EPl G n r) (h' : EPl G n r') : r = r' := by
  obtain ⟨a1, a2, a3⟩ := h
  obtain ⟨b1, b2, b3⟩ := h'
  by_cases e : r < r'
  · have := rn_dead (by omega) (a3 (by omega)) (r' - (r + 1)).toNat
    rw [show r + 1 + ((r' - (r + 1)).toNat : Int) = r' by omega] at this
    exact absurd this b2
  · by_cases e2 : r' < r
    · have := rn_dead (by omega) (b3 (by omega)) (r - (r' + 1)).toNat
      rw [show r' + 1 + ((r - (r' + 1)).toNat : Int) = r by omega] at this
      exact absurd this a2
    · omega
/-- where a part ends -/
def pe (G : Int → Int) (n p : Int) : Int := if fhF G 59 p (n - p).toNat = -1 then n else fhF G 59 p (n - p).toNat
theorem pe_rng {G : Int → Int} {n p : Int} (hp : 0 ≤ p) (hn : p ≤ n) : p ≤ pe G n p ∧ pe G n p ≤ n ∧ (∀ j, p ≤ j → j < pe G n p → G j ≠ 59) ∧ (pe G n p = n ∨ G (pe G n p) = 59) := by
  have h := fhF_eq G 59 (n - p).toNat p
  rw [show p + ((n - p).toNat : Int) = n by omega] at h
  unfold pe
  rcases h with ⟨e, h1⟩ | ⟨h1, h2, h3, h4⟩
  · rw [if_pos e]
    exact ⟨hn, Int.le_refl _, h1, Or.inl rfl⟩
  · rw [if_neg (by omega)]
    exact ⟨h1, by omega, h4, Or.inr h3⟩
theorem pe_of {G : Int → Int} {n p e : Int} (hp : 0 ≤ p) (h1 : p ≤ e) (h2 : e ≤ n) (h3 : ∀ j, p ≤ j → j < e → G j ≠ 59) (h4 : e = n ∨ G e = 59) : e = pe G n p := by
  obtain ⟨a1, a2, a3, a4⟩ := pe_rng (G := G) (n := n) (p := p) hp (by omega)
  by_cases q : e < pe G n p
  · rcases h4 with z | z
    · omega
    · exact absurd z (a3 e h1 q)
  · by_cases q2 : pe G n p < e
    · rcases a4 with z | z
      · omega
      · exact absurd z (h3 _ a1 q2)
    · omega
/-- a number's digits -/
def nvF (G : Int → Int) (a : Int) : Nat → Int
  | 0 => 0
  | c + 1 => nvF G a c * 10 + (G (a + c) - 48)
theorem nvF_at {G : Int → Int} {a k : Int} (h : a ≤ k) : nvF G a (k + 1 - a).toNat = nvF G a (k - a).toNat * 10 + (G k - 48) := by
  have e : a + (((k - a).toNat : Nat) : Int) = k := by omega
  rw [show (k + 1 - a).toNat = (k - a).toNat + 1 by omega, show nvF G a ((k - a).toNat + 1) = nvF G a (k - a).toNat * 10 + (G (a + ((k - a).toNat : Nat)) - 48) from rfl, e]
/-- words said one behind the other: the chamber, the word so far, whether it goes on -/
def spk (s u : Int) (q : aS × Int × Int) : aS × Int × Int := if q.2.2 = 1 ∧ aW q.1 < 200 ∧ aB q.1 < 400 then (aEnd (aAdd q.1 s q.2.1 u), 0, 1) else (q.1, 0, 0)
def scS (s u c : Int) (q : aS × Int × Int) : aS × Int × Int := if c = 44 then spk s u q else (q.1, q.2.1 * 10 + (c - 48), q.2.2)
def scF (G : Int → Int) (s u b : Int) (A : aS) : Nat → aS × Int × Int
  | 0 => (A, 0, 1)
  | k + 1 => scS s u (G (b + k)) (scF G s u b A k)
def spF (s u : Int) (W : Int → Int) (A : aS) : Nat → aS × Int × Int
  | 0 => (A, 0, 1)
  | k + 1 => spk s u ((spF s u W A k).1, W k, (spF s u W A k).2.2)
def scE (G : Int → Int) (s u b : Int) (A : aS) (e : Int) : aS × Int × Int := spk s u (scF G s u b A (e - b).toNat)
theorem scF_at {G : Int → Int} {s u b : Int} {A : aS} {k : Int} (h : b ≤ k) : scF G s u b A (k + 1 - b).toNat = scS s u (G k) (scF G s u b A (k - b).toNat) := by
  have e : b + (((k - b).toNat : Nat) : Int) = k := by omega
  rw [show (k + 1 - b).toNat = (k - b).toNat + 1 by omega, show scF G s u b A ((k - b).toNat + 1) = scS s u (G (b + ((k - b).toNat : Nat))) (scF G s u b A (k - b).toNat) from rfl, e]
theorem scS_in {s u c : Int} {q : aS × Int × Int} (h : c ≠ 44) : scS s u c q = (q.1, q.2.1 * 10 + (c - 48), q.2.2) := by unfold scS; rw [if_neg h]
theorem scS_44 {s u c : Int} {q : aS × Int × Int} (h : c = 44) : scS s u c q = spk s u q := by unfold scS; rw [if_pos h]
theorem spF_at {s u : Int} {W : Int → Int} {A : aS} {k : Int} (h : 0 ≤ k) : spF s u W A (k + 1).toNat = spk s u ((spF s u W A k.toNat).1, W k, (spF s u W A k.toNat).2.2) := by
  have e : ((k.toNat : Nat) : Int) = k := by omega
  rw [show (k + 1).toNat = k.toNat + 1 by omega, show spF s u W A (k.toNat + 1) = spk s u ((spF s u W A k.toNat).1, W (k.toNat : Nat), (spF s u W A k.toNat).2.2) from rfl, e]
theorem spF_congr {s u : Int} {W W' : Int → Int} {A : aS} : ∀ k : Nat, (∀ j : Int, 0 ≤ j → j < k → W j = W' j) → spF s u W A k = spF s u W' A k
  | 0, _ => rfl
  | k + 1, h => by
    show spk s u _ = spk s u _
    rw [spF_congr k (fun j h1 h2 => h j h1 (by omega)), h k (by omega) (by omega)]
theorem spk_0 (s u : Int) (q : aS × Int × Int) : (spk s u q).2.1 = 0 := by unfold spk; split <;> rfl
theorem spF_0 (s u : Int) (W : Int → Int) (A : aS) : ∀ k : Nat, (spF s u W A k).2.1 = 0
  | 0 => rfl
  | _ + 1 => spk_0 _ _ _
theorem spk_ok {s u w o : Int} {A : aS} (hs : 0 ≤ s ∧ s < 6) (hu : -1 ≤ u ∧ u ≤ 9) (hw : 1 ≤ w ∧ w ≤ 99) (hA : aOK A) (hp : aPast A) : aOK (spk s u (A, w, o)).1 ∧ aPast (spk s u (A, w, o)).1 := by
  unfold spk
  split
  · rename_i h
    have h2 : aB A < 400 := h.2.2
    have hk := aAdd_ok hA hp h.2.1 hs hw hu
    exact ⟨aEnd_ok hk h2, aEnd_past hk⟩
  · exact ⟨hA, hp⟩
theorem spk_o (s u : Int) (q : aS × Int × Int) : (spk s u q).2.2 = 0 ∨ (spk s u q).2.2 = 1 := by
  unfold spk
  split
  · exact Or.inr rfl
  · exact Or.inl rfl
def mkOf (G : Int → Int) (p e : Int) : Int := if p < e - 2 ∧ G (e - 2) = 35 then G (e - 1) - 48 else -1
def weOf (G : Int → Int) (p e : Int) : Int := if p < e - 2 ∧ G (e - 2) = 35 then e - 2 else e
/-- a dialogue, part by part -/
def tkF (G : Int → Int) (n : Int) : Nat → Int → aS → aS
  | 0, _, A => A
  | f + 1, p, A => if n ≤ p then A else if G p = 46 then (if aB A + nvF G (p + 1) (pe G n p - (p + 1)).toNat ≤ 400 then tkF G n f (pe G n p + 1) (aRest A (nvF G (p + 1) (pe G n p - (p + 1)).toNat).toNat) else A)
    else (if (scE G (G p - 48) (mkOf G p (pe G n p)) (p + 2) A (weOf G p (pe G n p))).2.2 = 1 then tkF G n f (pe G n p + 1) (scE G (G p - 48) (mkOf G p (pe G n p)) (p + 2) A (weOf G p (pe G n p))).1 else (scE G (G p - 48) (mkOf G p (pe G n p)) (p + 2) A (weOf G p (pe G n p))).1)
theorem tkF_end {G : Int → Int} {n p : Int} {A : aS} (h : n ≤ p) : ∀ f : Nat, tkF G n f p A = A
  | 0 => rfl
  | f + 1 => by unfold tkF; rw [if_pos h]
theorem tkF_rest {G : Int → Int} {n p e v : Int} {A : aS} {f : Nat} (h : p < n) (h2 : G p = 46) (he : e = pe G n p) (hv : v = nvF G (p + 1) (e - (p + 1)).toNat) : tkF G n (f + 1) p A = if aB A + v ≤ 400 then tkF G n f (e + 1) (aRest A v.toNat) else A := by
  subst he
  subst hv
  show (if n ≤ p then A else _) = _
  rw [if_neg (by omega), if_pos h2]
theorem tkF_say {G : Int → Int} {n p e : Int} {A : aS} {f : Nat} {q : aS × Int × Int} (h : p < n) (h2 : G p ≠ 46) (he : e = pe G n p) (hq : q = scE G (G p - 48) (mkOf G p e) (p + 2) A (weOf G p e)) : tkF G n (f + 1) p A = if q.2.2 = 1 then tkF G n f (e + 1) q.1 else q.1 := by
  subst he
  subst hq
  show (if n ≤ p then A else _) = _
  rw [if_neg (by omega), if_neg h2]
/-- the state behind all that can be said of the text -/
def tk (L : lS) : aS := tkF (lTg L) (lTn L) 61 0 (lA L)
/-- a start of a part in a complete text: what comes first -/
theorem st_0 {G : Int → Int} {n p : Int} (hC : acc (rn G n)) (h0 : 0 ≤ p) (hn : p ≤ n) (hp : rn G p = 0) : p < n ∧ ((G p = 46 ∧ rn G (p + 1) = 6) ∨ ((48 ≤ G p ∧ G p ≤ 53) ∧ rn G (p + 1) = 1 ∧ G (p + 1) = 58 ∧ rn G (p + 2) = 2 ∧ (49 ≤ G (p + 2) ∧ G (p + 2) ≤ 57) ∧ p + 2 < n)) := by
  have hlt : p < n := by
    by_cases e : p = n
    · subst e; unfold acc at hC; omega
    · omega
  refine ⟨hlt, ?_⟩
  have h1 := rn_st h0 hp
  rw [nx_0] at h1
  have n1 := rn_ok hC (show 0 ≤ p + 1 by omega) (by omega)
  by_cases e : G p = 46
  · exact Or.inl ⟨e, by rw [if_pos e] at h1; exact h1⟩
  · rw [if_neg e] at h1
    have h2 : rn G (p + 1) = 1 ∧ (48 ≤ G p ∧ G p ≤ 53) := by omega
    have hlt2 : p + 1 < n := by
      by_cases e : p + 1 = n
      · rw [← e] at hC; unfold acc at hC; omega
      · omega
    have h3 := rn_st (show 0 ≤ p + 1 by omega) h2.1
    rw [nx_1, show p + 1 + 1 = p + 2 by omega] at h3
    have n2 := rn_ok hC (show 0 ≤ p + 2 by omega) (by omega)
    have h4 : rn G (p + 2) = 2 ∧ G (p + 1) = 58 := by omega
    have hlt3 : p + 2 < n := by
      by_cases e : p + 2 = n
      · rw [← e] at hC; unfold acc at hC; omega
      · omega
    have h5 := rn_st (show 0 ≤ p + 2 by omega) h4.1
    rw [nx_2] at h5
    have n3 := rn_ok hC (show 0 ≤ p + 2 + 1 by omega) (by omega)
    exact Or.inr ⟨h2.2, h2.1, h4.2, h4.1, by omega, hlt3⟩
/-- a part's end is an end -/
theorem pe_acc {G : Int → Int} {n p : Int} (hC : acc (rn G n)) (h0 : 0 ≤ p) (hn : p ≤ n) : acc (rn G (pe G n p)) ∧ (pe G n p < n → rn G (pe G n p + 1) = 0) := by
  obtain ⟨a1, a2, a3, a4⟩ := pe_rng (G := G) (n := n) (p := p) h0 hn
  by_cases e : pe G n p = n
  · exact ⟨by rw [e]; exact hC, fun z => by omega⟩
  · have e2 : G (pe G n p) = 59 := by rcases a4 with z | z; exact absurd z e; exact z
    have h1 := rn_at (G := G) (show 0 ≤ pe G n p by omega)
    rw [e2] at h1
    have n1 := rn_ok hC (show 0 ≤ pe G n p + 1 by omega) (by omega)
    rw [h1] at n1
    have := nx_59 n1
    exact ⟨this.2, fun _ => by rw [h1]; exact this.1⟩
/-- behind a hash: a digit, then the part's end -/
theorem tx_hash {G : Int → Int} {n p k : Int} (hC : acc (rn G n)) (h0 : 0 ≤ p) (hpk : p ≤ k) (hk : k < pe G n p) (hn : p ≤ n) (h35 : G k = 35) : pe G n p = k + 2 ∧ (rn G k = 3 ∨ rn G k = 4) ∧ (48 ≤ G (k + 1) ∧ G (k + 1) ≤ 57) := by
  obtain ⟨a1, a2, a3, a4⟩ := pe_rng (G := G) (n := n) (p := p) h0 hn
  have hac := (pe_acc hC h0 hn).1
  have h1 := rn_at (G := G) (show 0 ≤ k by omega)
  rw [h35] at h1
  have n1 := rn_ok hC (show 0 ≤ k + 1 by omega) (by omega)
  rw [h1] at n1
  have h2 := nx_35 n1
  have h3 : rn G (k + 1) = 5 := by rw [h1]; exact h2.1
  have e1 : k + 1 ≠ pe G n p := fun e => by rw [← e] at hac; unfold acc at hac; omega
  have h4 := rn_st (show 0 ≤ k + 1 by omega) h3
  rw [nx_5, show k + 1 + 1 = k + 2 by omega] at h4
  have n2 := rn_ok hC (show 0 ≤ k + 2 by omega) (by omega)
  have h5 : rn G (k + 2) = 9 ∧ (48 ≤ G (k + 1) ∧ G (k + 1) ≤ 57) := by omega
  refine ⟨?_, h2.2, h5.2⟩
  by_cases e2 : k + 2 = pe G n p
  · exact e2.symm
  · have h6 := rn_st (show 0 ≤ k + 2 by omega) h5.1
    rw [nx_9] at h6
    have n3 := rn_ok hC (show 0 ≤ k + 2 + 1 by omega) (by omega)
    have := a3 (k + 2) (by omega) (by omega)
    omega
/-- words alone, without a hash: only these states -/
theorem say_st {G : Int → Int} {n p : Int} (hC : acc (rn G n)) (h0 : 0 ≤ p) (hp2 : rn G (p + 2) = 2) : ∀ c : Nat, p + 2 + c ≤ n → (∀ j, p ≤ j → j < p + 2 + c → G j ≠ 59 ∧ G j ≠ 35) → rn G (p + 2 + c) = 2 ∨ rn G (p + 2 + c) = 3 ∨ rn G (p + 2 + c) = 4
  | 0, _, _ => Or.inl (by rw [show p + 2 + ((0 : Nat) : Int) = p + 2 by omega]; exact hp2)
  | c + 1, hc, hg => by
    have ih := say_st hC h0 hp2 c (by omega) (fun j z1 z2 => hg j z1 (by omega))
    have hn := rn_ok hC (show 0 ≤ p + 2 + c + 1 by omega) (by omega)
    have hj := hg (p + 2 + c) (by omega) (by omega)
    rw [show p + 2 + ((c + 1 : Nat) : Int) = p + 2 + c + 1 by omega]
    rcases ih with z | z | z
    · have z2 := rn_st (show 0 ≤ p + 2 + (c : Int) by omega) z
      rw [nx_2] at z2
      omega
    · have z2 := rn_st (show 0 ≤ p + 2 + (c : Int) by omega) z
      rw [nx_3] at z2
      omega
    · have z2 := rn_st (show 0 ≤ p + 2 + (c : Int) by omega) z
      rw [nx_4] at z2
      omega
theorem scS_dead {s u c : Int} {q : aS × Int × Int} (h : q.2.2 = 0) : (scS s u c q).1 = q.1 ∧ (scS s u c q).2.2 = 0 := by
  unfold scS spk
  by_cases e : c = 44
  · rw [if_pos e, if_neg (by omega)]; exact ⟨rfl, rfl⟩
  · rw [if_neg e]; exact ⟨rfl, h⟩
theorem scF_dead {G : Int → Int} {s u b : Int} {A : aS} {k : Nat} (h : (scF G s u b A k).2.2 = 0) : ∀ c : Nat, (scF G s u b A (k + c)).1 = (scF G s u b A k).1 ∧ (scF G s u b A (k + c)).2.2 = 0
  | 0 => ⟨rfl, h⟩
  | c + 1 => by
    have ih := scF_dead h c
    have h2 := scS_dead (s := s) (u := u) (c := G (b + ((k + c : Nat) : Int))) ih.2
    show (scS s u (G (b + ((k + c : Nat) : Int))) (scF G s u b A (k + c))).1 = _ ∧ (scS s u (G (b + ((k + c : Nat) : Int))) (scF G s u b A (k + c))).2.2 = 0
    exact ⟨h2.1.trans ih.1, h2.2⟩
theorem scE_dead {G : Int → Int} {s u b k w y : Int} {A A1 : aS} (hb : b ≤ k) (hk : k ≤ w) (h : scF G s u b A (k - b).toNat = (A1, y, 1)) (h44 : k = w ∨ G k = 44) (hns : ¬ (aW A1 < 200 ∧ aB A1 < 400)) : (scE G s u b A w).1 = A1 ∧ (scE G s u b A w).2.2 = 0 := by
  have hs : spk s u (A1, y, 1) = (A1, 0, 0) := by
    unfold spk
    rw [if_neg (fun z => hns z.2)]
  unfold scE
  by_cases e : k = w
  · rw [← e, h, hs]; exact ⟨rfl, rfl⟩
  · have h4 : G k = 44 := by omega
    have h1 : scF G s u b A (k + 1 - b).toNat = (A1, 0, 0) := by rw [scF_at hb, h, scS_44 h4, hs]
    have h2 := scF_dead (G := G) (s := s) (u := u) (b := b) (A := A) (k := (k + 1 - b).toNat) (by rw [h1]) (w - (k + 1)).toNat
    rw [show (k + 1 - b).toNat + (w - (k + 1)).toNat = (w - b).toNat by omega, h1] at h2
    unfold spk
    rw [if_neg (by omega)]
    exact ⟨h2.1, rfl⟩
set_option maxHeartbeats 4000000 in
set_option maxRecDepth 100000 in
theorem k_X4_isDigit {Ω : xO} {h : xM} {c : Int} (hc : 0 ≤ c ∧ c < 65536) : xCt Ω yX4_isDigit cX4_isDigit 1 (some .boolean) rm_X4_isDigit [vi c] h (fun q h' => h = h' ∧ ∃ r, q = some (vi r) ∧ (((48 ≤ c ∧ c ≤ 57) ∧ r = 1) ∨ (¬ (48 ≤ c ∧ c ≤ 57) ∧ r = 0))) xNo := by
  refine xCt_of (ini := false) (by decide +kernel) (Nat.le_of_ble_eq_true rfl) (fun q => absurd q (by decide)) ?_
  generalize hPR : (fun q h' => h = h' ∧ ∃ r, q = some (vi r) ∧ (((48 ≤ c ∧ c ≤ 57) ∧ r = 1) ∨ (¬ (48 ≤ c ∧ c ≤ 57) ∧ r = 0)) : Option xV → xM → Prop) = PR
  have K0 : X Ω RX4 cX4_isDigit 1 (some .boolean) false rm_X4_isDigit PR xNo 0 0 0 [some (vi c)] [] h := ?_
  exact K0
  refine X.iload_n (i := 0) rfl rfl dX4_isDigit_0 (pc' := 1) rfl ?_
  refine X.bipush (by decide +kernel) dX4_isDigit_1 (pc' := 3) rfl ?_
  refine X.bipush (by decide +kernel) dX4_isDigit_3 (pc' := 5) rfl ?_
  refine X.callSN (rm := rm_X5_isWithin) (As := [vi c, vi 48, vi 57]) (st := []) dX4_isDigit_5 ck_X4_23 rfl rfl ⟨Nat.le_of_ble_eq_true rfl, Nat.le_of_ble_eq_true rfl⟩ (Nat.le_of_ble_eq_true rfl) (Nat.le_of_ble_eq_true rfl) (Nat.le_of_ble_eq_true rfl) (pc' := 8) rfl (k_X5_isWithin ⟨by omega, by omega⟩ ⟨by omega, by omega⟩ ⟨by omega, by omega⟩) (fun q1 hq1 eq1 => ?_)
  obtain ⟨rfl, r2, rfl, hr2⟩ := eq1
  refine X.iret dX4_isDigit_8 (Or.inr ⟨rfl, by omega⟩) (Nat.le_of_ble_eq_true rfl) (Nat.le_of_ble_eq_true rfl) ?_
  subst hPR
  exact ⟨rfl, _, rfl, by omega⟩
set_option maxHeartbeats 4000000 in
set_option maxRecDepth 100000 in
theorem k_X4_behindPart {Ω : xO} {h : xM} {c : Int} (hc : 0 ≤ c ∧ c < 65536) : xCt Ω yX4_behindPart cX4_behindPart 1 (some .int) rm_X4_behindPart [vi c] h (fun q h' => h = h' ∧ ∃ r, q = some (vi r) ∧ r = if c = 59 then 0 else -1) xNo := by
  refine xCt_of (ini := false) (by decide +kernel) (Nat.le_of_ble_eq_true rfl) (fun q => absurd q (by decide)) ?_
  generalize hPR : (fun q h' => h = h' ∧ ∃ r, q = some (vi r) ∧ r = if c = 59 then 0 else -1 : Option xV → xM → Prop) = PR
  have K0 : X Ω RX4 cX4_behindPart 1 (some .int) false rm_X4_behindPart PR xNo 0 0 0 [some (vi c)] [] h := ?_
  exact K0
  refine X.iload_n (i := 0) rfl rfl dX4_behindPart_0 (pc' := 1) rfl ?_
  refine X.bipush (by decide +kernel) dX4_behindPart_1 (pc' := 3) rfl ?_
  refine X.icmp_ne (tgt := 10) dX4_behindPart_3 ⟨by omega, by omega⟩ ⟨by omega, by omega⟩ (by decide) (pc' := 6) rfl (fun c3 => ?_) (fun c3 => ?_)
  · refine X.iconst dX4_behindPart_10 (pc' := 11) rfl ?_
    refine X.iret dX4_behindPart_11 (Or.inl rfl) (Nat.le_of_ble_eq_true rfl) (Nat.le_of_ble_eq_true rfl) ?_
    subst hPR
    refine ⟨rfl, _, rfl, ?_⟩
    split <;> omega
  · refine X.iconst dX4_behindPart_6 (pc' := 7) rfl ?_
    refine X.goto (tgt := 11) dX4_behindPart_7 (by decide) ?_
    refine X.iret dX4_behindPart_11 (Or.inl rfl) (Nat.le_of_ble_eq_true rfl) (Nat.le_of_ble_eq_true rfl) ?_
    subst hPR
    refine ⟨rfl, _, rfl, ?_⟩
    split <;> omega
set_option maxHeartbeats 4000000 in
set_option maxRecDepth 100000 in
theorem k_X4_behindWord {Ω : xO} {h : xM} {c : Int} (hc : 0 ≤ c ∧ c < 65536) : xCt Ω yX4_behindWord cX4_behindWord 1 (some .int) rm_X4_behindWord [vi c] h (fun q h' => h = h' ∧ ∃ r, q = some (vi r) ∧ r = if c = 44 then 2 else if c = 35 then 5 else if c = 59 then 0 else -1) xNo := by
  refine xCt_of (ini := false) (by decide +kernel) (Nat.le_of_ble_eq_true rfl) (fun q => absurd q (by decide)) ?_
  generalize hPR : (fun q h' => h = h' ∧ ∃ r, q = some (vi r) ∧ r = if c = 44 then 2 else if c = 35 then 5 else if c = 59 then 0 else -1 : Option xV → xM → Prop) = PR
  have K0 : X Ω RX4 cX4_behindWord 1 (some .int) false rm_X4_behindWord PR xNo 0 0 0 [some (vi c)] [] h := ?_
  exact K0
  refine X.iload_n (i := 0) rfl rfl dX4_behindWord_0 (pc' := 1) rfl ?_
  refine X.bipush (by decide +kernel) dX4_behindWord_1 (pc' := 3) rfl ?_
  refine X.icmp_ne (tgt := 8) dX4_behindWord_3 ⟨by omega, by omega⟩ ⟨by omega, by omega⟩ (by decide) (pc' := 6) rfl (fun c3 => ?_) (fun c3 => ?_)
  · refine X.iload_n (i := 0) rfl rfl dX4_behindWord_8 (pc' := 9) rfl ?_
    refine X.bipush (by decide +kernel) dX4_behindWord_9 (pc' := 11) rfl ?_
    refine X.icmp_ne (tgt := 18) dX4_behindWord_11 ⟨by omega, by omega⟩ ⟨by omega, by omega⟩ (by decide) (pc' := 14) rfl (fun c11 => ?_) (fun c11 => ?_)
    · refine X.iload_n (i := 0) rfl rfl dX4_behindWord_18 (pc' := 19) rfl ?_
      refine X.callS (rm := rm_X4_behindPart) (As := [vi c]) (st := []) dX4_behindWord_19 ck_X4_38 rfl rfl ⟨Nat.le_of_ble_eq_true rfl, Nat.le_of_ble_eq_true rfl⟩ (Nat.le_of_ble_eq_true rfl) (Nat.le_of_ble_eq_true rfl) (Nat.le_of_ble_eq_true rfl) (pc' := 22) rfl (k_X4_behindPart ⟨by omega, by omega⟩) (fun q1 hq1 eq1 => ?_) (fun _ _ x1 => x1.elim)
      obtain ⟨rfl, r2, rfl, hr2⟩ := eq1
      refine X.iret dX4_behindWord_22 (Or.inl rfl) (Nat.le_of_ble_eq_true rfl) (Nat.le_of_ble_eq_true rfl) ?_
      subst hPR
      refine ⟨rfl, _, rfl, ?_⟩
      split <;> (try split) <;> (try split) <;> omega
    · refine X.iconst dX4_behindWord_14 (pc' := 15) rfl ?_
      refine X.goto (tgt := 22) dX4_behindWord_15 (by decide) ?_
      refine X.iret dX4_behindWord_22 (Or.inl rfl) (Nat.le_of_ble_eq_true rfl) (Nat.le_of_ble_eq_true rfl) ?_
      subst hPR
      refine ⟨rfl, _, rfl, ?_⟩
      split <;> (try split) <;> (try split) <;> omega
  · refine X.iconst dX4_behindWord_6 (pc' := 7) rfl ?_
    refine X.iret dX4_behindWord_7 (Or.inl rfl) (Nat.le_of_ble_eq_true rfl) (Nat.le_of_ble_eq_true rfl) ?_
    subst hPR
    refine ⟨rfl, _, rfl, ?_⟩
    split <;> (try split) <;> (try split) <;> omega
set_option maxHeartbeats 4000000 in
set_option maxRecDepth 100000 in
theorem k_X4_pauseDigit {Ω : xO} {h : xM} {c : Int} (hc : 0 ≤ c ∧ c < 65536) : xCt Ω yX4_pauseDigit cX4_pauseDigit 1 (some .int) rm_X4_pauseDigit [vi c] h (fun q h' => h = h' ∧ ∃ r, q = some (vi r) ∧ r = if 49 ≤ c ∧ c ≤ 52 then 7 else if c = 53 then 8 else if 54 ≤ c ∧ c ≤ 57 then 9 else -1) xNo := by
  refine xCt_of (ini := false) (by decide +kernel) (Nat.le_of_ble_eq_true rfl) (fun q => absurd q (by decide)) ?_
  generalize hPR : (fun q h' => h = h' ∧ ∃ r, q = some (vi r) ∧ r = if 49 ≤ c ∧ c ≤ 52 then 7 else if c = 53 then 8 else if 54 ≤ c ∧ c ≤ 57 then 9 else -1 : Option xV → xM → Prop) = PR
  have K0 : X Ω RX4 cX4_pauseDigit 1 (some .int) false rm_X4_pauseDigit PR xNo 0 0 0 [some (vi c)] [] h := ?_
  exact K0
  refine X.iload_n (i := 0) rfl rfl dX4_pauseDigit_0 (pc' := 1) rfl ?_
  refine X.bipush (by decide +kernel) dX4_pauseDigit_1 (pc' := 3) rfl ?_
  refine X.bipush (by decide +kernel) dX4_pauseDigit_3 (pc' := 5) rfl ?_
  refine X.callSN (rm := rm_X5_isWithin) (As := [vi c, vi 49, vi 52]) (st := []) dX4_pauseDigit_5 ck_X4_23 rfl rfl ⟨Nat.le_of_ble_eq_true rfl, Nat.le_of_ble_eq_true rfl⟩ (Nat.le_of_ble_eq_true rfl) (Nat.le_of_ble_eq_true rfl) (Nat.le_of_ble_eq_true rfl) (pc' := 8) rfl (k_X5_isWithin ⟨by omega, by omega⟩ ⟨by omega, by omega⟩ ⟨by omega, by omega⟩) (fun q1 hq1 eq1 => ?_)
  obtain ⟨rfl, r2, rfl, hr2⟩ := eq1
  refine X.if_eq (tgt := 14) dX4_pauseDigit_8 ⟨by omega, by omega⟩ (by decide) (pc' := 11) rfl (fun c8 => ?_) (fun c8 => ?_)
  · refine X.iload_n (i := 0) rfl rfl dX4_pauseDigit_14 (pc' := 15) rfl ?_
    refine X.bipush (by decide +kernel) dX4_pauseDigit_15 (pc' := 17) rfl ?_
    refine X.icmp_ne (tgt := 23) dX4_pauseDigit_17 ⟨by omega, by omega⟩ ⟨by omega, by omega⟩ (by decide) (pc' := 20) rfl (fun c17 => ?_) (fun c17 => ?_)
    · refine X.iload_n (i := 0) rfl rfl dX4_pauseDigit_23 (pc' := 24) rfl ?_
      refine X.bipush (by decide +kernel) dX4_pauseDigit_24 (pc' := 26) rfl ?_
      refine X.bipush (by decide +kernel) dX4_pauseDigit_26 (pc' := 28) rfl ?_
      refine X.callSN (rm := rm_X5_isWithin) (As := [vi c, vi 54, vi 57]) (st := []) dX4_pauseDigit_28 ck_X4_23 rfl rfl ⟨Nat.le_of_ble_eq_true rfl, Nat.le_of_ble_eq_true rfl⟩ (Nat.le_of_ble_eq_true rfl) (Nat.le_of_ble_eq_true rfl) (Nat.le_of_ble_eq_true rfl) (pc' := 31) rfl (k_X5_isWithin ⟨by omega, by omega⟩ ⟨by omega, by omega⟩ ⟨by omega, by omega⟩) (fun q3 hq3 eq3 => ?_)
      obtain ⟨rfl, r4, rfl, hr4⟩ := eq3
      refine X.if_eq (tgt := 39) dX4_pauseDigit_31 ⟨by omega, by omega⟩ (by decide) (pc' := 34) rfl (fun c31 => ?_) (fun c31 => ?_)
      · refine X.iconst dX4_pauseDigit_39 (pc' := 40) rfl ?_
        refine X.iret dX4_pauseDigit_40 (Or.inl rfl) (Nat.le_of_ble_eq_true rfl) (Nat.le_of_ble_eq_true rfl) ?_
        subst hPR
        refine ⟨rfl, _, rfl, ?_⟩
        split <;> (try split) <;> (try split) <;> omega
      · refine X.bipush (by decide +kernel) dX4_pauseDigit_34 (pc' := 36) rfl ?_
        refine X.goto (tgt := 40) dX4_pauseDigit_36 (by decide) ?_
        refine X.iret dX4_pauseDigit_40 (Or.inl rfl) (Nat.le_of_ble_eq_true rfl) (Nat.le_of_ble_eq_true rfl) ?_
        subst hPR
        refine ⟨rfl, _, rfl, ?_⟩
        split <;> (try split) <;> (try split) <;> omega
    · refine X.bipush (by decide +kernel) dX4_pauseDigit_20 (pc' := 22) rfl ?_
      refine X.iret dX4_pauseDigit_22 (Or.inl rfl) (Nat.le_of_ble_eq_true rfl) (Nat.le_of_ble_eq_true rfl) ?_
      subst hPR
      refine ⟨rfl, _, rfl, ?_⟩
      split <;> (try split) <;> (try split) <;> omega
  · refine X.bipush (by decide +kernel) dX4_pauseDigit_11 (pc' := 13) rfl ?_
    refine X.iret dX4_pauseDigit_13 (Or.inl rfl) (Nat.le_of_ble_eq_true rfl) (Nat.le_of_ble_eq_true rfl) ?_
    subst hPR
    refine ⟨rfl, _, rfl, ?_⟩
    split <;> (try split) <;> (try split) <;> omega
set_option maxHeartbeats 4000000 in
set_option maxRecDepth 100000 in
theorem k_X4_next {Ω : xO} {h : xM} {s c : Int} (hs : -1 ≤ s ∧ s ≤ 9) (hc : 0 ≤ c ∧ c < 65536) : xCt Ω yX4_next cX4_next 2 (some .int) rm_X4_next [vi s, vi c] h (fun q h' => h = h' ∧ ∃ r, q = some (vi r) ∧ r = nx s c) xNo := by
  refine xCt_of (ini := false) (by decide +kernel) (Nat.le_of_ble_eq_true rfl) (fun q => absurd q (by decide)) ?_
  generalize hPR : (fun q h' => h = h' ∧ ∃ r, q = some (vi r) ∧ r = nx s c : Option xV → xM → Prop) = PR
  have K0 : X Ω RX4 cX4_next 2 (some .int) false rm_X4_next PR xNo 0 0 0 [some (vi s), some (vi c)] [] h := ?_
  exact K0
  refine X.iload_n (i := 0) rfl rfl dX4_next_0 (pc' := 1) rfl ?_
  rcases (show s = 0 ∨ s = 1 ∨ s = 2 ∨ s = 3 ∨ s = 4 ∨ s = 5 ∨ s = 6 ∨ s = 7 ∨ s = 8 ∨ s = 9 ∨ (s < 0 ∨ 9 < s) by omega) with sw1 | sw1 | sw1 | sw1 | sw1 | sw1 | sw1 | sw1 | sw1 | sw1 | sw1
  · refine X.tableIn (tgt := 56) (off := 55) dX4_next_1 ⟨by omega, by omega⟩ (by omega) (by omega) (by rw [sw1]; rfl) (by decide) ?_
    refine X.iload_n (i := 1) rfl rfl dX4_next_56 (pc' := 57) rfl ?_
    refine X.bipush (by decide +kernel) dX4_next_57 (pc' := 59) rfl ?_
    refine X.icmp_ne (tgt := 67) dX4_next_59 ⟨by omega, by omega⟩ ⟨by omega, by omega⟩ (by decide) (pc' := 62) rfl (fun c59 => ?_) (fun c59 => ?_)
    · refine X.iload_n (i := 1) rfl rfl dX4_next_67 (pc' := 68) rfl ?_
      refine X.bipush (by decide +kernel) dX4_next_68 (pc' := 70) rfl ?_
      refine X.bipush (by decide +kernel) dX4_next_70 (pc' := 72) rfl ?_
      refine X.callSN (rm := rm_X5_isWithin) (As := [vi c, vi 48, vi 53]) (st := []) dX4_next_72 ck_X4_23 rfl rfl ⟨Nat.le_of_ble_eq_true rfl, Nat.le_of_ble_eq_true rfl⟩ (Nat.le_of_ble_eq_true rfl) (Nat.le_of_ble_eq_true rfl) (Nat.le_of_ble_eq_true rfl) (pc' := 75) rfl (k_X5_isWithin ⟨by omega, by omega⟩ ⟨by omega, by omega⟩ ⟨by omega, by omega⟩) (fun q2 hq2 eq2 => ?_)
      obtain ⟨rfl, r3, rfl, hr3⟩ := eq2
      refine X.if_eq (tgt := 82) dX4_next_75 ⟨by omega, by omega⟩ (by decide) (pc' := 78) rfl (fun c75 => ?_) (fun c75 => ?_)
      · refine X.iconst dX4_next_82 (pc' := 83) rfl ?_
        refine X.iret dX4_next_83 (Or.inl rfl) (Nat.le_of_ble_eq_true rfl) (Nat.le_of_ble_eq_true rfl) ?_
        subst hPR
        refine ⟨rfl, _, rfl, ?_⟩
        rw [show s = 0 from sw1, nx_0]
        (try split) <;> (try split) <;> (try split) <;> (try split) <;> omega
      · refine X.iconst dX4_next_78 (pc' := 79) rfl ?_
        refine X.goto (tgt := 83) dX4_next_79 (by decide) ?_
        refine X.iret dX4_next_83 (Or.inl rfl) (Nat.le_of_ble_eq_true rfl) (Nat.le_of_ble_eq_true rfl) ?_
        subst hPR
        refine ⟨rfl, _, rfl, ?_⟩
        rw [show s = 0 from sw1, nx_0]
        (try split) <;> (try split) <;> (try split) <;> (try split) <;> omega
    · refine X.bipush (by decide +kernel) dX4_next_62 (pc' := 64) rfl ?_
      refine X.goto (tgt := 83) dX4_next_64 (by decide) ?_
      refine X.iret dX4_next_83 (Or.inl rfl) (Nat.le_of_ble_eq_true rfl) (Nat.le_of_ble_eq_true rfl) ?_
      subst hPR
      refine ⟨rfl, _, rfl, ?_⟩
      rw [show s = 0 from sw1, nx_0]
      (try split) <;> (try split) <;> (try split) <;> (try split) <;> omega
  · refine X.tableIn (tgt := 84) (off := 83) dX4_next_1 ⟨by omega, by omega⟩ (by omega) (by omega) (by rw [sw1]; rfl) (by decide) ?_
    refine X.iload_n (i := 1) rfl rfl dX4_next_84 (pc' := 85) rfl ?_
    refine X.bipush (by decide +kernel) dX4_next_85 (pc' := 87) rfl ?_
    refine X.icmp_ne (tgt := 94) dX4_next_87 ⟨by omega, by omega⟩ ⟨by omega, by omega⟩ (by decide) (pc' := 90) rfl (fun c87 => ?_) (fun c87 => ?_)
    · refine X.iconst dX4_next_94 (pc' := 95) rfl ?_
      refine X.iret dX4_next_95 (Or.inl rfl) (Nat.le_of_ble_eq_true rfl) (Nat.le_of_ble_eq_true rfl) ?_
      subst hPR
      refine ⟨rfl, _, rfl, ?_⟩
      rw [show s = 1 from sw1, nx_1]
      (try split) <;> (try split) <;> (try split) <;> (try split) <;> omega
    · refine X.iconst dX4_next_90 (pc' := 91) rfl ?_
      refine X.goto (tgt := 95) dX4_next_91 (by decide) ?_
      refine X.iret dX4_next_95 (Or.inl rfl) (Nat.le_of_ble_eq_true rfl) (Nat.le_of_ble_eq_true rfl) ?_
      subst hPR
      refine ⟨rfl, _, rfl, ?_⟩
      rw [show s = 1 from sw1, nx_1]
      (try split) <;> (try split) <;> (try split) <;> (try split) <;> omega
  · refine X.tableIn (tgt := 96) (off := 95) dX4_next_1 ⟨by omega, by omega⟩ (by omega) (by omega) (by rw [sw1]; rfl) (by decide) ?_
    refine X.iload_n (i := 1) rfl rfl dX4_next_96 (pc' := 97) rfl ?_
    refine X.bipush (by decide +kernel) dX4_next_97 (pc' := 99) rfl ?_
    refine X.bipush (by decide +kernel) dX4_next_99 (pc' := 101) rfl ?_
    refine X.callSN (rm := rm_X5_isWithin) (As := [vi c, vi 49, vi 57]) (st := []) dX4_next_101 ck_X4_23 rfl rfl ⟨Nat.le_of_ble_eq_true rfl, Nat.le_of_ble_eq_true rfl⟩ (Nat.le_of_ble_eq_true rfl) (Nat.le_of_ble_eq_true rfl) (Nat.le_of_ble_eq_true rfl) (pc' := 104) rfl (k_X5_isWithin ⟨by omega, by omega⟩ ⟨by omega, by omega⟩ ⟨by omega, by omega⟩) (fun q4 hq4 eq4 => ?_)
    obtain ⟨rfl, r5, rfl, hr5⟩ := eq4
    refine X.if_eq (tgt := 111) dX4_next_104 ⟨by omega, by omega⟩ (by decide) (pc' := 107) rfl (fun c104 => ?_) (fun c104 => ?_)
    · refine X.iconst dX4_next_111 (pc' := 112) rfl ?_
      refine X.iret dX4_next_112 (Or.inl rfl) (Nat.le_of_ble_eq_true rfl) (Nat.le_of_ble_eq_true rfl) ?_
      subst hPR
      refine ⟨rfl, _, rfl, ?_⟩
      rw [show s = 2 from sw1, nx_2]
      (try split) <;> (try split) <;> (try split) <;> (try split) <;> omega
    · refine X.iconst dX4_next_107 (pc' := 108) rfl ?_
      refine X.goto (tgt := 112) dX4_next_108 (by decide) ?_
      refine X.iret dX4_next_112 (Or.inl rfl) (Nat.le_of_ble_eq_true rfl) (Nat.le_of_ble_eq_true rfl) ?_
      subst hPR
      refine ⟨rfl, _, rfl, ?_⟩
      rw [show s = 2 from sw1, nx_2]
      (try split) <;> (try split) <;> (try split) <;> (try split) <;> omega
  · refine X.tableIn (tgt := 113) (off := 112) dX4_next_1 ⟨by omega, by omega⟩ (by omega) (by omega) (by rw [sw1]; rfl) (by decide) ?_
    refine X.iload_n (i := 1) rfl rfl dX4_next_113 (pc' := 114) rfl ?_
    refine X.callS (rm := rm_X4_isDigit) (As := [vi c]) (st := []) dX4_next_114 ck_X4_27 rfl rfl ⟨Nat.le_of_ble_eq_true rfl, Nat.le_of_ble_eq_true rfl⟩ (Nat.le_of_ble_eq_true rfl) (Nat.le_of_ble_eq_true rfl) (Nat.le_of_ble_eq_true rfl) (pc' := 117) rfl (k_X4_isDigit ⟨by omega, by omega⟩) (fun q6 hq6 eq6 => ?_) (fun _ _ x1 => x1.elim)
    obtain ⟨rfl, r7, rfl, hr7⟩ := eq6
    refine X.if_eq (tgt := 124) dX4_next_117 ⟨by omega, by omega⟩ (by decide) (pc' := 120) rfl (fun c117 => ?_) (fun c117 => ?_)
    · refine X.iload_n (i := 1) rfl rfl dX4_next_124 (pc' := 125) rfl ?_
      refine X.callS (rm := rm_X4_behindWord) (As := [vi c]) (st := []) dX4_next_125 ck_X4_31 rfl rfl ⟨Nat.le_of_ble_eq_true rfl, Nat.le_of_ble_eq_true rfl⟩ (Nat.le_of_ble_eq_true rfl) (Nat.le_of_ble_eq_true rfl) (Nat.le_of_ble_eq_true rfl) (pc' := 128) rfl (k_X4_behindWord ⟨by omega, by omega⟩) (fun q8 hq8 eq8 => ?_) (fun _ _ x1 => x1.elim)
      obtain ⟨rfl, r9, rfl, hr9⟩ := eq8
      refine X.iret dX4_next_128 (Or.inl rfl) (Nat.le_of_ble_eq_true rfl) (Nat.le_of_ble_eq_true rfl) ?_
      subst hPR
      refine ⟨rfl, _, rfl, ?_⟩
      rw [show s = 3 from sw1, nx_3]
      (try split) <;> (try split) <;> (try split) <;> (try split) <;> omega
    · refine X.iconst dX4_next_120 (pc' := 121) rfl ?_
      refine X.goto (tgt := 128) dX4_next_121 (by decide) ?_
      refine X.iret dX4_next_128 (Or.inl rfl) (Nat.le_of_ble_eq_true rfl) (Nat.le_of_ble_eq_true rfl) ?_
      subst hPR
      refine ⟨rfl, _, rfl, ?_⟩
      rw [show s = 3 from sw1, nx_3]
      (try split) <;> (try split) <;> (try split) <;> (try split) <;> omega
  · refine X.tableIn (tgt := 129) (off := 128) dX4_next_1 ⟨by omega, by omega⟩ (by omega) (by omega) (by rw [sw1]; rfl) (by decide) ?_
    refine X.iload_n (i := 1) rfl rfl dX4_next_129 (pc' := 130) rfl ?_
    refine X.callS (rm := rm_X4_behindWord) (As := [vi c]) (st := []) dX4_next_130 ck_X4_31 rfl rfl ⟨Nat.le_of_ble_eq_true rfl, Nat.le_of_ble_eq_true rfl⟩ (Nat.le_of_ble_eq_true rfl) (Nat.le_of_ble_eq_true rfl) (Nat.le_of_ble_eq_true rfl) (pc' := 133) rfl (k_X4_behindWord ⟨by omega, by omega⟩) (fun q10 hq10 eq10 => ?_) (fun _ _ x1 => x1.elim)
    obtain ⟨rfl, r11, rfl, hr11⟩ := eq10
    refine X.iret dX4_next_133 (Or.inl rfl) (Nat.le_of_ble_eq_true rfl) (Nat.le_of_ble_eq_true rfl) ?_
    subst hPR
    refine ⟨rfl, _, rfl, ?_⟩
    rw [show s = 4 from sw1, nx_4]
    (try split) <;> (try split) <;> (try split) <;> (try split) <;> omega
  · refine X.tableIn (tgt := 134) (off := 133) dX4_next_1 ⟨by omega, by omega⟩ (by omega) (by omega) (by rw [sw1]; rfl) (by decide) ?_
    refine X.iload_n (i := 1) rfl rfl dX4_next_134 (pc' := 135) rfl ?_
    refine X.callS (rm := rm_X4_isDigit) (As := [vi c]) (st := []) dX4_next_135 ck_X4_27 rfl rfl ⟨Nat.le_of_ble_eq_true rfl, Nat.le_of_ble_eq_true rfl⟩ (Nat.le_of_ble_eq_true rfl) (Nat.le_of_ble_eq_true rfl) (Nat.le_of_ble_eq_true rfl) (pc' := 138) rfl (k_X4_isDigit ⟨by omega, by omega⟩) (fun q12 hq12 eq12 => ?_) (fun _ _ x1 => x1.elim)
    obtain ⟨rfl, r13, rfl, hr13⟩ := eq12
    refine X.if_eq (tgt := 146) dX4_next_138 ⟨by omega, by omega⟩ (by decide) (pc' := 141) rfl (fun c138 => ?_) (fun c138 => ?_)
    · refine X.iconst dX4_next_146 (pc' := 147) rfl ?_
      refine X.iret dX4_next_147 (Or.inl rfl) (Nat.le_of_ble_eq_true rfl) (Nat.le_of_ble_eq_true rfl) ?_
      subst hPR
      refine ⟨rfl, _, rfl, ?_⟩
      rw [show s = 5 from sw1, nx_5]
      (try split) <;> (try split) <;> (try split) <;> (try split) <;> omega
    · refine X.bipush (by decide +kernel) dX4_next_141 (pc' := 143) rfl ?_
      refine X.goto (tgt := 147) dX4_next_143 (by decide) ?_
      refine X.iret dX4_next_147 (Or.inl rfl) (Nat.le_of_ble_eq_true rfl) (Nat.le_of_ble_eq_true rfl) ?_
      subst hPR
      refine ⟨rfl, _, rfl, ?_⟩
      rw [show s = 5 from sw1, nx_5]
      (try split) <;> (try split) <;> (try split) <;> (try split) <;> omega
  · refine X.tableIn (tgt := 148) (off := 147) dX4_next_1 ⟨by omega, by omega⟩ (by omega) (by omega) (by rw [sw1]; rfl) (by decide) ?_
    refine X.iload_n (i := 1) rfl rfl dX4_next_148 (pc' := 149) rfl ?_
    refine X.callS (rm := rm_X4_pauseDigit) (As := [vi c]) (st := []) dX4_next_149 ck_X4_35 rfl rfl ⟨Nat.le_of_ble_eq_true rfl, Nat.le_of_ble_eq_true rfl⟩ (Nat.le_of_ble_eq_true rfl) (Nat.le_of_ble_eq_true rfl) (Nat.le_of_ble_eq_true rfl) (pc' := 152) rfl (k_X4_pauseDigit ⟨by omega, by omega⟩) (fun q14 hq14 eq14 => ?_) (fun _ _ x1 => x1.elim)
    obtain ⟨rfl, r15, rfl, hr15⟩ := eq14
    refine X.iret dX4_next_152 (Or.inl rfl) (Nat.le_of_ble_eq_true rfl) (Nat.le_of_ble_eq_true rfl) ?_
    subst hPR
    refine ⟨rfl, _, rfl, ?_⟩
    rw [show s = 6 from sw1, nx_6]
    (try split) <;> (try split) <;> (try split) <;> (try split) <;> omega
  · refine X.tableIn (tgt := 153) (off := 152) dX4_next_1 ⟨by omega, by omega⟩ (by omega) (by omega) (by rw [sw1]; rfl) (by decide) ?_
    refine X.iload_n (i := 1) rfl rfl dX4_next_153 (pc' := 154) rfl ?_
    refine X.callS (rm := rm_X4_isDigit) (As := [vi c]) (st := []) dX4_next_154 ck_X4_27 rfl rfl ⟨Nat.le_of_ble_eq_true rfl, Nat.le_of_ble_eq_true rfl⟩ (Nat.le_of_ble_eq_true rfl) (Nat.le_of_ble_eq_true rfl) (Nat.le_of_ble_eq_true rfl) (pc' := 157) rfl (k_X4_isDigit ⟨by omega, by omega⟩) (fun q16 hq16 eq16 => ?_) (fun _ _ x1 => x1.elim)
    obtain ⟨rfl, r17, rfl, hr17⟩ := eq16
    refine X.if_eq (tgt := 165) dX4_next_157 ⟨by omega, by omega⟩ (by decide) (pc' := 160) rfl (fun c157 => ?_) (fun c157 => ?_)
    · refine X.iload_n (i := 1) rfl rfl dX4_next_165 (pc' := 166) rfl ?_
      refine X.callS (rm := rm_X4_behindPart) (As := [vi c]) (st := []) dX4_next_166 ck_X4_38 rfl rfl ⟨Nat.le_of_ble_eq_true rfl, Nat.le_of_ble_eq_true rfl⟩ (Nat.le_of_ble_eq_true rfl) (Nat.le_of_ble_eq_true rfl) (Nat.le_of_ble_eq_true rfl) (pc' := 169) rfl (k_X4_behindPart ⟨by omega, by omega⟩) (fun q18 hq18 eq18 => ?_) (fun _ _ x1 => x1.elim)
      obtain ⟨rfl, r19, rfl, hr19⟩ := eq18
      refine X.iret dX4_next_169 (Or.inl rfl) (Nat.le_of_ble_eq_true rfl) (Nat.le_of_ble_eq_true rfl) ?_
      subst hPR
      refine ⟨rfl, _, rfl, ?_⟩
      rw [show s = 7 from sw1, nx_7]
      (try split) <;> (try split) <;> (try split) <;> (try split) <;> omega
    · refine X.bipush (by decide +kernel) dX4_next_160 (pc' := 162) rfl ?_
      refine X.goto (tgt := 169) dX4_next_162 (by decide) ?_
      refine X.iret dX4_next_169 (Or.inl rfl) (Nat.le_of_ble_eq_true rfl) (Nat.le_of_ble_eq_true rfl) ?_
      subst hPR
      refine ⟨rfl, _, rfl, ?_⟩
      rw [show s = 7 from sw1, nx_7]
      (try split) <;> (try split) <;> (try split) <;> (try split) <;> omega
  · refine X.tableIn (tgt := 170) (off := 169) dX4_next_1 ⟨by omega, by omega⟩ (by omega) (by omega) (by rw [sw1]; rfl) (by decide) ?_
    refine X.iload_n (i := 1) rfl rfl dX4_next_170 (pc' := 171) rfl ?_
    refine X.bipush (by decide +kernel) dX4_next_171 (pc' := 173) rfl ?_
    refine X.icmp_ne (tgt := 181) dX4_next_173 ⟨by omega, by omega⟩ ⟨by omega, by omega⟩ (by decide) (pc' := 176) rfl (fun c173 => ?_) (fun c173 => ?_)
    · refine X.iload_n (i := 1) rfl rfl dX4_next_181 (pc' := 182) rfl ?_
      refine X.callS (rm := rm_X4_behindPart) (As := [vi c]) (st := []) dX4_next_182 ck_X4_38 rfl rfl ⟨Nat.le_of_ble_eq_true rfl, Nat.le_of_ble_eq_true rfl⟩ (Nat.le_of_ble_eq_true rfl) (Nat.le_of_ble_eq_true rfl) (Nat.le_of_ble_eq_true rfl) (pc' := 185) rfl (k_X4_behindPart ⟨by omega, by omega⟩) (fun q20 hq20 eq20 => ?_) (fun _ _ x1 => x1.elim)
      obtain ⟨rfl, r21, rfl, hr21⟩ := eq20
      refine X.iret dX4_next_185 (Or.inl rfl) (Nat.le_of_ble_eq_true rfl) (Nat.le_of_ble_eq_true rfl) ?_
      subst hPR
      refine ⟨rfl, _, rfl, ?_⟩
      rw [show s = 8 from sw1, nx_8]
      (try split) <;> (try split) <;> (try split) <;> (try split) <;> omega
    · refine X.bipush (by decide +kernel) dX4_next_176 (pc' := 178) rfl ?_
      refine X.goto (tgt := 185) dX4_next_178 (by decide) ?_
      refine X.iret dX4_next_185 (Or.inl rfl) (Nat.le_of_ble_eq_true rfl) (Nat.le_of_ble_eq_true rfl) ?_
      subst hPR
      refine ⟨rfl, _, rfl, ?_⟩
      rw [show s = 8 from sw1, nx_8]
      (try split) <;> (try split) <;> (try split) <;> (try split) <;> omega
  · refine X.tableIn (tgt := 186) (off := 185) dX4_next_1 ⟨by omega, by omega⟩ (by omega) (by omega) (by rw [sw1]; rfl) (by decide) ?_
    refine X.iload_n (i := 1) rfl rfl dX4_next_186 (pc' := 187) rfl ?_
    refine X.callS (rm := rm_X4_behindPart) (As := [vi c]) (st := []) dX4_next_187 ck_X4_38 rfl rfl ⟨Nat.le_of_ble_eq_true rfl, Nat.le_of_ble_eq_true rfl⟩ (Nat.le_of_ble_eq_true rfl) (Nat.le_of_ble_eq_true rfl) (Nat.le_of_ble_eq_true rfl) (pc' := 190) rfl (k_X4_behindPart ⟨by omega, by omega⟩) (fun q22 hq22 eq22 => ?_) (fun _ _ x1 => x1.elim)
    obtain ⟨rfl, r23, rfl, hr23⟩ := eq22
    refine X.iret dX4_next_190 (Or.inl rfl) (Nat.le_of_ble_eq_true rfl) (Nat.le_of_ble_eq_true rfl) ?_
    subst hPR
    refine ⟨rfl, _, rfl, ?_⟩
    rw [show s = 9 from sw1, nx_9]
    (try split) <;> (try split) <;> (try split) <;> (try split) <;> omega
  · refine X.tableOut (tgt := 191) dX4_next_1 ⟨by omega, by omega⟩ sw1 (by decide) ?_
    refine X.iconst dX4_next_191 (pc' := 192) rfl ?_
    refine X.iret dX4_next_192 (Or.inl rfl) (Nat.le_of_ble_eq_true rfl) (Nat.le_of_ble_eq_true rfl) ?_
    subst hPR
    refine ⟨rfl, _, rfl, ?_⟩
    rw [nx_no c (by omega)]
set_option maxHeartbeats 4000000 in
set_option maxRecDepth 100000 in
theorem k_X4_errorPlace {Ω : xO} {h : xM} {t : Nat} {n : Int} {G : Int → Int} (hS : TxS h t) (hT : TR h t n G) : xCt Ω yX4_errorPlace cX4_errorPlace 3 (some .int) rm_X4_errorPlace [rf t] h (fun q h' => h = h' ∧ ∃ r, q = some (vi r) ∧ EPl G n r) xNo := by
  refine xCt_of (ini := false) (by decide +kernel) (Nat.le_of_ble_eq_true rfl) (fun q => absurd q (by decide)) ?_
  generalize hPR : (fun q h' => h = h' ∧ ∃ r, q = some (vi r) ∧ EPl G n r : Option xV → xM → Prop) = PR
  have K0 : X Ω RX4 cX4_errorPlace 3 (some .int) false rm_X4_errorPlace PR xNo 0 0 0 [some (rf t), none, none] [] h := ?_
  exact K0
  obtain ⟨hT1, hT2, hT3⟩ := id hT
  refine X.iconst dX4_errorPlace_0 (pc' := 1) rfl ?_
  refine X.istore_n (i := 1) (ls' := [some (rf t), some (vi 0), none]) (hi := rfl) (hd := dX4_errorPlace_1) (by decide) rfl rfl (pc' := 2) rfl ?_
  refine X.iconst dX4_errorPlace_2 (pc' := 3) rfl ?_
  refine X.istore_n (i := 2) (ls' := [some (rf t), some (vi 0), some (vi 0)]) (hi := rfl) (hd := dX4_errorPlace_3) (by decide) rfl rfl (pc' := 4) rfl ?_
  have L4 : ∀ (n4 : Nat) (st : Int) (k : Int), (n - k).toNat < n4 → (0 ≤ k ∧ k ≤ n ∧ st = rn G k ∧ rn G k ≠ -1) → X Ω RX4 cX4_errorPlace 3 (some .int) false rm_X4_errorPlace PR xNo 0 0 4 [some (rf t), some (vi st), some (vi k)] [] h := by
    intro n4
    induction n4 with
    | zero => intro st k hm _; exfalso; omega
    | succ n4 ih4 =>
      intro st k hm4 hinv
      obtain ⟨hk0, hkn, hst, hok⟩ := hinv
      have hsr := rn_rng G k
      refine X.iload_n (i := 2) rfl rfl dX4_errorPlace_4 (pc' := 5) rfl ?_
      refine X.aload_n (i := 0) rfl rfl dX4_errorPlace_5 (pc' := 6) rfl ?_
      refine X.getI (x := mI h t 0) fk_X4_15 xcl_4 dX4_errorPlace_6 (by decide) hS.1 rfl (pc' := 9) rfl (fun r1 => ?_)
      obtain ⟨r1a, r1b⟩ := r1
      refine X.icmp_ge (tgt := 36) dX4_errorPlace_9 ⟨by omega, by omega⟩ ⟨by omega, by omega⟩ (by decide) (pc' := 12) rfl (fun c9 => ?_) (fun c9 => ?_)
      · refine X.aload_n (i := 0) rfl rfl dX4_errorPlace_36 (pc' := 37) rfl ?_
        refine X.getI (x := mI h t 0) fk_X4_15 xcl_4 dX4_errorPlace_37 (by decide) hS.1 rfl (pc' := 40) rfl (fun r2 => ?_)
        obtain ⟨r2a, r2b⟩ := r2
        refine X.iret dX4_errorPlace_40 (Or.inl rfl) (Nat.le_of_ble_eq_true rfl) (Nat.le_of_ble_eq_true rfl) ?_
        subst hPR
        have e : k = n := by omega
        subst e
        exact ⟨rfl, _, rfl, by rw [hT1]; exact ⟨⟨by omega, by omega⟩, hok, fun z => absurd z (by omega)⟩⟩
      · refine X.iload_n (i := 1) rfl rfl dX4_errorPlace_12 (pc' := 13) rfl ?_
        refine X.aload_n (i := 0) rfl rfl dX4_errorPlace_13 (pc' := 14) rfl ?_
        refine X.getR fk_X4_9 xcl_4 dX4_errorPlace_14 hS.1 hS.2.1 (pc' := 17) rfl ?_
        refine X.iload_n (i := 2) rfl rfl dX4_errorPlace_17 (pc' := 18) rfl ?_
        refine X.cald (x := G k) dX4_errorPlace_18 hS.2.2 (by omega) (by omega) ⟨by omega, by omega⟩ (mI_at (hT3 k (by omega) (by omega)).1 (by omega)) (pc' := 19) rfl (fun r3 => ?_)
        obtain ⟨r3a, r3b⟩ := r3
        have r3c := (hT3 k (by omega) (by omega)).2
        refine X.callS (rm := rm_X4_next) (As := [vi st, vi (G k)]) (st := []) dX4_errorPlace_19 ck_X4_19 rfl rfl ⟨Nat.le_of_ble_eq_true rfl, Nat.le_of_ble_eq_true rfl⟩ (Nat.le_of_ble_eq_true rfl) (Nat.le_of_ble_eq_true rfl) (Nat.le_of_ble_eq_true rfl) (pc' := 22) rfl (k_X4_next ⟨by omega, by omega⟩ ⟨by omega, by omega⟩) (fun q4 hq4 eq4 => ?_) (fun _ _ x1 => x1.elim)
        obtain ⟨rfl, y, rfl, hy⟩ := eq4
        have hyr := nx_rng (rn G k) (G k)
        have hy2 : y = rn G (k + 1) := by rw [hy, hst, rn_at hk0]
        have hyr2 := rn_rng G (k + 1)
        refine X.istore_n (i := 1) (ls' := [some (rf t), some (vi y), some (vi k)]) (hi := rfl) (hd := dX4_errorPlace_22) (by decide) rfl rfl (pc' := 23) rfl ?_
        refine X.iload_n (i := 1) rfl rfl dX4_errorPlace_23 (pc' := 24) rfl ?_
        refine X.iconst dX4_errorPlace_24 (pc' := 25) rfl ?_
        refine X.icmp_ne (tgt := 30) dX4_errorPlace_25 ⟨by omega, by omega⟩ ⟨by omega, by omega⟩ (by decide) (pc' := 28) rfl (fun c25 => ?_) (fun c25 => ?_)
        · refine X.iinc (i := 2) (ls' := [some (rf t), some (vi y), some (vi (k + 1))]) dX4_errorPlace_30 rfl (by decide) rfl rfl (pc' := 33) rfl ?_
          refine X.goto (tgt := 4) dX4_errorPlace_33 (by decide) ?_
          refine ih4 y (k + 1) (by omega) ?_
          exact ⟨by omega, by omega, hy2, by omega⟩
        · refine X.iload_n (i := 2) rfl rfl dX4_errorPlace_28 (pc' := 29) rfl ?_
          refine X.iret dX4_errorPlace_29 (Or.inl rfl) (Nat.le_of_ble_eq_true rfl) (Nat.le_of_ble_eq_true rfl) ?_
          subst hPR
          exact ⟨rfl, _, rfl, ⟨by omega, by omega⟩, hok, fun _ => by omega⟩
  refine L4 _ 0 0 (Nat.lt_succ_self _) ?_
  exact ⟨by omega, by omega, rfl, by show (0 : Int) ≠ -1; decide⟩
set_option maxHeartbeats 4000000 in
set_option maxRecDepth 100000 in
theorem k_X4_isComplete {Ω : xO} {h : xM} {t : Nat} {n : Int} {G : Int → Int} (hS : TxS h t) (hT : TR h t n G) : xCt Ω yX4_isComplete cX4_isComplete 3 (some .boolean) rm_X4_isComplete [rf t] h (fun q h' => h = h' ∧ ∃ r, q = some (vi r) ∧ ((acc (rn G n) ∧ r = 1) ∨ (¬ acc (rn G n) ∧ r = 0))) xNo := by
  refine xCt_of (ini := false) (by decide +kernel) (Nat.le_of_ble_eq_true rfl) (fun q => absurd q (by decide)) ?_
  generalize hPR : (fun q h' => h = h' ∧ ∃ r, q = some (vi r) ∧ ((acc (rn G n) ∧ r = 1) ∨ (¬ acc (rn G n) ∧ r = 0)) : Option xV → xM → Prop) = PR
  have K0 : X Ω RX4 cX4_isComplete 3 (some .boolean) false rm_X4_isComplete PR xNo 0 0 0 [some (rf t), none, none] [] h := ?_
  exact K0
  obtain ⟨hT1, hT2, hT3⟩ := id hT
  refine X.iconst dX4_isComplete_0 (pc' := 1) rfl ?_
  refine X.istore_n (i := 1) (ls' := [some (rf t), some (vi 0), none]) (hi := rfl) (hd := dX4_isComplete_1) (by decide) rfl rfl (pc' := 2) rfl ?_
  refine X.iconst dX4_isComplete_2 (pc' := 3) rfl ?_
  refine X.istore_n (i := 2) (ls' := [some (rf t), some (vi 0), some (vi 0)]) (hi := rfl) (hd := dX4_isComplete_3) (by decide) rfl rfl (pc' := 4) rfl ?_
  have L4 : ∀ (n4 : Nat) (st : Int) (k : Int), (n - k).toNat < n4 → (0 ≤ k ∧ k ≤ n ∧ st = rn G k) → X Ω RX4 cX4_isComplete 3 (some .boolean) false rm_X4_isComplete PR xNo 0 0 4 [some (rf t), some (vi st), some (vi k)] [] h := by
    intro n4
    induction n4 with
    | zero => intro st k hm _; exfalso; omega
    | succ n4 ih4 =>
      intro st k hm4 hinv
      obtain ⟨hk0, hkn, hst⟩ := hinv
      have hsr := rn_rng G k
      refine X.iload_n (i := 2) rfl rfl dX4_isComplete_4 (pc' := 5) rfl ?_
      refine X.aload_n (i := 0) rfl rfl dX4_isComplete_5 (pc' := 6) rfl ?_
      refine X.getI (x := mI h t 0) fk_X4_15 xcl_4 dX4_isComplete_6 (by decide) hS.1 rfl (pc' := 9) rfl (fun r1 => ?_)
      obtain ⟨r1a, r1b⟩ := r1
      refine X.icmp_ge (tgt := 29) dX4_isComplete_9 ⟨by omega, by omega⟩ ⟨by omega, by omega⟩ (by decide) (pc' := 12) rfl (fun c9 => ?_) (fun c9 => ?_)
      · refine X.iload_n (i := 1) rfl rfl dX4_isComplete_29 (pc' := 30) rfl ?_
        have e : k = n := by omega
        subst e
        rcases (show st = 3 ∨ st = 4 ∨ st = 5 ∨ st = 6 ∨ st = 7 ∨ st = 8 ∨ st = 9 ∨ (st < 3 ∨ 9 < st) by omega) with sw2 | sw2 | sw2 | sw2 | sw2 | sw2 | sw2 | sw2
        · refine X.tableIn (tgt := 72) (off := 42) dX4_isComplete_30 ⟨by omega, by omega⟩ (by omega) (by omega) (by rw [sw2]; rfl) (by decide) ?_
          refine X.iconst dX4_isComplete_72 (pc' := 73) rfl ?_
          refine X.iret dX4_isComplete_73 (Or.inr ⟨rfl, by omega⟩) (Nat.le_of_ble_eq_true rfl) (Nat.le_of_ble_eq_true rfl) ?_
          subst hPR
          exact ⟨rfl, _, rfl, Or.inl ⟨by unfold acc; omega, rfl⟩⟩
        · refine X.tableIn (tgt := 72) (off := 42) dX4_isComplete_30 ⟨by omega, by omega⟩ (by omega) (by omega) (by rw [sw2]; rfl) (by decide) ?_
          refine X.iconst dX4_isComplete_72 (pc' := 73) rfl ?_
          refine X.iret dX4_isComplete_73 (Or.inr ⟨rfl, by omega⟩) (Nat.le_of_ble_eq_true rfl) (Nat.le_of_ble_eq_true rfl) ?_
          subst hPR
          exact ⟨rfl, _, rfl, Or.inl ⟨by unfold acc; omega, rfl⟩⟩
        · refine X.tableIn (tgt := 74) (off := 44) dX4_isComplete_30 ⟨by omega, by omega⟩ (by omega) (by omega) (by rw [sw2]; rfl) (by decide) ?_
          refine X.iconst dX4_isComplete_74 (pc' := 75) rfl ?_
          refine X.iret dX4_isComplete_75 (Or.inr ⟨rfl, by omega⟩) (Nat.le_of_ble_eq_true rfl) (Nat.le_of_ble_eq_true rfl) ?_
          subst hPR
          exact ⟨rfl, _, rfl, Or.inr ⟨by unfold acc; omega, rfl⟩⟩
        · refine X.tableIn (tgt := 74) (off := 44) dX4_isComplete_30 ⟨by omega, by omega⟩ (by omega) (by omega) (by rw [sw2]; rfl) (by decide) ?_
          refine X.iconst dX4_isComplete_74 (pc' := 75) rfl ?_
          refine X.iret dX4_isComplete_75 (Or.inr ⟨rfl, by omega⟩) (Nat.le_of_ble_eq_true rfl) (Nat.le_of_ble_eq_true rfl) ?_
          subst hPR
          exact ⟨rfl, _, rfl, Or.inr ⟨by unfold acc; omega, rfl⟩⟩
        · refine X.tableIn (tgt := 72) (off := 42) dX4_isComplete_30 ⟨by omega, by omega⟩ (by omega) (by omega) (by rw [sw2]; rfl) (by decide) ?_
          refine X.iconst dX4_isComplete_72 (pc' := 73) rfl ?_
          refine X.iret dX4_isComplete_73 (Or.inr ⟨rfl, by omega⟩) (Nat.le_of_ble_eq_true rfl) (Nat.le_of_ble_eq_true rfl) ?_
          subst hPR
          exact ⟨rfl, _, rfl, Or.inl ⟨by unfold acc; omega, rfl⟩⟩
        · refine X.tableIn (tgt := 72) (off := 42) dX4_isComplete_30 ⟨by omega, by omega⟩ (by omega) (by omega) (by rw [sw2]; rfl) (by decide) ?_
          refine X.iconst dX4_isComplete_72 (pc' := 73) rfl ?_
          refine X.iret dX4_isComplete_73 (Or.inr ⟨rfl, by omega⟩) (Nat.le_of_ble_eq_true rfl) (Nat.le_of_ble_eq_true rfl) ?_
          subst hPR
          exact ⟨rfl, _, rfl, Or.inl ⟨by unfold acc; omega, rfl⟩⟩
        · refine X.tableIn (tgt := 72) (off := 42) dX4_isComplete_30 ⟨by omega, by omega⟩ (by omega) (by omega) (by rw [sw2]; rfl) (by decide) ?_
          refine X.iconst dX4_isComplete_72 (pc' := 73) rfl ?_
          refine X.iret dX4_isComplete_73 (Or.inr ⟨rfl, by omega⟩) (Nat.le_of_ble_eq_true rfl) (Nat.le_of_ble_eq_true rfl) ?_
          subst hPR
          exact ⟨rfl, _, rfl, Or.inl ⟨by unfold acc; omega, rfl⟩⟩
        · refine X.tableOut (tgt := 74) dX4_isComplete_30 ⟨by omega, by omega⟩ sw2 (by decide) ?_
          refine X.iconst dX4_isComplete_74 (pc' := 75) rfl ?_
          refine X.iret dX4_isComplete_75 (Or.inr ⟨rfl, by omega⟩) (Nat.le_of_ble_eq_true rfl) (Nat.le_of_ble_eq_true rfl) ?_
          subst hPR
          exact ⟨rfl, _, rfl, Or.inr ⟨by unfold acc; omega, rfl⟩⟩
      · refine X.iload_n (i := 1) rfl rfl dX4_isComplete_12 (pc' := 13) rfl ?_
        refine X.aload_n (i := 0) rfl rfl dX4_isComplete_13 (pc' := 14) rfl ?_
        refine X.getR fk_X4_9 xcl_4 dX4_isComplete_14 hS.1 hS.2.1 (pc' := 17) rfl ?_
        refine X.iload_n (i := 2) rfl rfl dX4_isComplete_17 (pc' := 18) rfl ?_
        refine X.cald (x := G k) dX4_isComplete_18 hS.2.2 (by omega) (by omega) ⟨by omega, by omega⟩ (mI_at (hT3 k (by omega) (by omega)).1 (by omega)) (pc' := 19) rfl (fun r3 => ?_)
        obtain ⟨r3a, r3b⟩ := r3
        have r3c := (hT3 k (by omega) (by omega)).2
        refine X.callS (rm := rm_X4_next) (As := [vi st, vi (G k)]) (st := []) dX4_isComplete_19 ck_X4_19 rfl rfl ⟨Nat.le_of_ble_eq_true rfl, Nat.le_of_ble_eq_true rfl⟩ (Nat.le_of_ble_eq_true rfl) (Nat.le_of_ble_eq_true rfl) (Nat.le_of_ble_eq_true rfl) (pc' := 22) rfl (k_X4_next ⟨by omega, by omega⟩ ⟨by omega, by omega⟩) (fun q4 hq4 eq4 => ?_) (fun _ _ x1 => x1.elim)
        obtain ⟨rfl, y, rfl, hy⟩ := eq4
        have hyr := nx_rng (rn G k) (G k)
        have hy2 : y = rn G (k + 1) := by rw [hy, hst, rn_at hk0]
        have hyr2 := rn_rng G (k + 1)
        refine X.istore_n (i := 1) (ls' := [some (rf t), some (vi y), some (vi k)]) (hi := rfl) (hd := dX4_isComplete_22) (by decide) rfl rfl (pc' := 23) rfl ?_
        refine X.iinc (i := 2) (ls' := [some (rf t), some (vi y), some (vi (k + 1))]) dX4_isComplete_23 rfl (by decide) rfl rfl (pc' := 26) rfl ?_
        refine X.goto (tgt := 4) dX4_isComplete_26 (by decide) ?_
        refine ih4 y (k + 1) (by omega) ?_
        exact ⟨by omega, by omega, hy2⟩
  refine L4 _ 0 0 (Nat.lt_succ_self _) ?_
  exact ⟨by omega, by omega, rfl⟩
set_option maxHeartbeats 4000000 in
set_option maxRecDepth 100000 in
theorem k_X4_restIn {Ω : xO} {h : xM} {t b : Nat} {n p e : Int} {G : Int → Int} {A : aS} (hS : TxS h t) (hT : TR h t n G) (hR : RC h b A) (hd : t + 1 < b ∨ b + 29 ≤ t) (hC : acc (rn G n)) (hp : 0 ≤ p ∧ p < n) (hst : rn G p = 0) (he : e = pe G n p) (h46 : G p = 46) : xCt Ω yX4_restIn cX4_restIn 6 (some .boolean) rm_X4_restIn [rf t, rf b, vi p, vi e] h (fun q h' => Fr h h' b ∧ ∃ r, q = some (vi r) ∧ ((aB A + nvF G (p + 1) (e - (p + 1)).toNat ≤ 400 ∧ r = 1 ∧ RC h' b (aRest A (nvF G (p + 1) (e - (p + 1)).toNat).toNat)) ∨ (400 < aB A + nvF G (p + 1) (e - (p + 1)).toNat ∧ r = 0 ∧ RC h' b A))) xNo := by
  refine xCt_of (ini := false) (by decide +kernel) (Nat.le_of_ble_eq_true rfl) (fun q => absurd q (by decide)) ?_
  generalize hPR : (fun q h' => Fr h h' b ∧ ∃ r, q = some (vi r) ∧ ((aB A + nvF G (p + 1) (e - (p + 1)).toNat ≤ 400 ∧ r = 1 ∧ RC h' b (aRest A (nvF G (p + 1) (e - (p + 1)).toNat).toNat)) ∨ (400 < aB A + nvF G (p + 1) (e - (p + 1)).toNat ∧ r = 0 ∧ RC h' b A)) : Option xV → xM → Prop) = PR
  have K0 : X Ω RX4 cX4_restIn 6 (some .boolean) false rm_X4_restIn PR xNo 0 0 0 [some (rf t), some (rf b), some (vi p), some (vi e), none, none] [] h := ?_
  exact K0
  obtain ⟨hT1, hT2, hT3⟩ := id hT
  have okA : aOK A := hR.1.2.1
  have okB := okA.1
  have okN := okA.2.1
  have hnB : mI h b 0 = aB A := hR.1.2.2.1
  obtain ⟨pr1, pr2, pr3, pr4⟩ := pe_rng (G := G) (n := n) (p := p) hp.1 (by omega)
  have pac := pe_acc hC hp.1 (show p ≤ n by omega)
  have hs0 := (st_0 hC hp.1 (by omega) hst).2
  rw [← he] at pr1 pr2 pr3 pr4 pac
  have hp6 : rn G (p + 1) = 6 := by omega
  have hep : p + 1 ≤ e := by
    rcases pr4 with z | z
    · omega
    · by_cases e9 : p = e
      · rw [e9] at h46; omega
      · omega
  refine X.iconst dX4_restIn_0 (pc' := 1) rfl ?_
  refine X.istore (i := 4) (ls' := [some (rf t), some (rf b), some (vi p), some (vi e), some (vi 0), none]) (hd := dX4_restIn_1) (by decide) rfl rfl (pc' := 3) rfl ?_
  refine X.iload_n (i := 2) rfl rfl dX4_restIn_3 (pc' := 4) rfl ?_
  refine X.iconst dX4_restIn_4 (pc' := 5) rfl ?_
  refine X.iadd dX4_restIn_5 (pc' := 6) rfl ?_
  refine X.gen (fun x1 hx1 => ?_)
  refine X.istore (i := 5) (ls' := [some (rf t), some (rf b), some (vi p), some (vi e), some (vi 0), some (vi x1)]) (hd := dX4_restIn_6) (by decide) rfl rfl (pc' := 8) rfl ?_
  have L8 : ∀ (n8 : Nat) (v : Int) (k : Int), (e - k).toNat < n8 → (p + 1 ≤ k ∧ k ≤ e ∧ v = nvF G (p + 1) (k - (p + 1)).toNat ∧ ((k = p + 1 ∧ rn G k = 6 ∧ v = 0) ∨ (rn G k = 7 ∧ 1 ≤ v ∧ v ≤ 4) ∨ (rn G k = 8 ∧ v = 5) ∨ (rn G k = 9 ∧ 1 ≤ v ∧ v ≤ 50))) → X Ω RX4 cX4_restIn 6 (some .boolean) false rm_X4_restIn PR xNo 0 0 8 [some (rf t), some (rf b), some (vi p), some (vi e), some (vi v), some (vi k)] [] h := by
    intro n8
    induction n8 with
    | zero => intro v k hm _; exfalso; omega
    | succ n8 ih8 =>
      intro v k hm8 hinv
      obtain ⟨hk0, hke, hv, hq⟩ := hinv
      have hvr : 0 ≤ v ∧ v ≤ 50 := by omega
      refine X.iload (i := 5) rfl dX4_restIn_8 (pc' := 10) rfl ?_
      refine X.iload_n (i := 3) rfl rfl dX4_restIn_10 (pc' := 11) rfl ?_
      refine X.icmp_ge (tgt := 38) dX4_restIn_11 ⟨by omega, by omega⟩ ⟨by omega, by omega⟩ (by decide) (pc' := 14) rfl (fun c11 => ?_) (fun c11 => ?_)
      · have ek : k = e := by omega
        rw [ek] at hv hq
        have hac := pac.1
        unfold acc at hac
        have hv1 : 1 ≤ v ∧ v ≤ 50 := by omega
        refine X.aload_n (i := 1) rfl rfl dX4_restIn_38 (pc' := 39) rfl ?_
        refine X.iload (i := 4) rfl dX4_restIn_39 (pc' := 41) rfl ?_
        refine X.callV (ci := 0) (a := b) (rm := rm_X0_canRest) (As := [vi v]) (st := []) dX4_restIn_41 ck_X4_51 rfl (by decide) hR.1.1.1 rfl rfl ⟨Nat.le_of_ble_eq_true rfl, Nat.le_of_ble_eq_true rfl⟩ (Nat.le_of_ble_eq_true rfl) (Nat.le_of_ble_eq_true rfl) (Nat.le_of_ble_eq_true rfl) (pc' := 44) rfl (k_X0_canRest hR.1.1 ⟨by omega, by omega⟩ ⟨by omega, by omega⟩) (fun q2 hq2 eq2 => ?_) (fun _ _ x1 => x1.elim)
        obtain ⟨rfl, r3, rfl, hr3⟩ := eq2
        refine X.if_ne (tgt := 49) dX4_restIn_44 ⟨by omega, by omega⟩ (by decide) (pc' := 47) rfl (fun c44 => ?_) (fun c44 => ?_)
        · refine X.aload_n (i := 1) rfl rfl dX4_restIn_49 (pc' := 50) rfl ?_
          refine X.iload (i := 4) rfl dX4_restIn_50 (pc' := 52) rfl ?_
          refine X.callV (ci := 0) (a := b) (rm := rm_X0_rest) (As := [vi v]) (st := []) dX4_restIn_52 ck_X4_57 rfl (by decide) hR.1.1.1 rfl rfl ⟨Nat.le_of_ble_eq_true rfl, Nat.le_of_ble_eq_true rfl⟩ (Nat.le_of_ble_eq_true rfl) (Nat.le_of_ble_eq_true rfl) (Nat.le_of_ble_eq_true rfl) (pc' := 55) rfl (k_X0_rest hR ⟨by omega, by omega⟩) (fun q4 hq4 eq4 => ?_) (fun _ _ x1 => x1.elim)
          obtain ⟨rfl, hRE, hFE⟩ := eq4
          refine X.iconst dX4_restIn_55 (pc' := 56) rfl ?_
          refine X.iret dX4_restIn_56 (Or.inr ⟨rfl, by omega⟩) (Nat.le_of_ble_eq_true rfl) (Nat.le_of_ble_eq_true rfl) ?_
          subst hPR
          exact ⟨hFE, _, rfl, Or.inl ⟨by omega, rfl, by rw [← hv]; exact hRE⟩⟩
        · refine X.iconst dX4_restIn_47 (pc' := 48) rfl ?_
          refine X.iret dX4_restIn_48 (Or.inr ⟨rfl, by omega⟩) (Nat.le_of_ble_eq_true rfl) (Nat.le_of_ble_eq_true rfl) ?_
          subst hPR
          exact ⟨Fr.rf, _, rfl, Or.inr ⟨by omega, rfl, hR⟩⟩
      · refine X.iload (i := 4) rfl dX4_restIn_14 (pc' := 16) rfl ?_
        refine X.bipush (by decide +kernel) dX4_restIn_16 (pc' := 18) rfl ?_
        refine X.imul dX4_restIn_18 (pc' := 19) rfl ?_
        refine X.aload_n (i := 0) rfl rfl dX4_restIn_19 (pc' := 20) rfl ?_
        refine X.getR fk_X4_9 xcl_4 dX4_restIn_20 hS.1 hS.2.1 (pc' := 23) rfl ?_
        refine X.iload (i := 5) rfl dX4_restIn_23 (pc' := 25) rfl ?_
        refine X.cald (x := G k) dX4_restIn_25 hS.2.2 (by omega) (by omega) ⟨by omega, by omega⟩ (mI_at (hT3 k (by omega) (by omega)).1 (by omega)) (pc' := 26) rfl (fun r5 => ?_)
        obtain ⟨r5a, r5b⟩ := r5
        have r5c := (hT3 k (by omega) (by omega)).2
        refine X.bipush (by decide +kernel) dX4_restIn_26 (pc' := 28) rfl ?_
        refine X.isub dX4_restIn_28 (pc' := 29) rfl ?_
        refine X.iadd dX4_restIn_29 (pc' := 30) rfl ?_
        refine X.gen (fun x6 hx6 => ?_)
        refine X.istore (i := 4) (ls' := [some (rf t), some (rf b), some (vi p), some (vi e), some (vi x6), some (vi k)]) (hd := dX4_restIn_30) (by decide) rfl rfl (pc' := 32) rfl ?_
        refine X.iinc (i := 5) (ls' := [some (rf t), some (rf b), some (vi p), some (vi e), some (vi x6), some (vi (k + 1))]) dX4_restIn_32 rfl (by decide) rfl rfl (pc' := 35) rfl ?_
        refine X.goto (tgt := 8) dX4_restIn_35 (by decide) ?_
        refine ih8 x6 (k + 1) (by omega) ?_
        have hkn9 := pr3 k (by omega) (by omega)
        have hnk := rn_ok hC (show 0 ≤ k + 1 by omega) (by omega)
        refine ⟨by omega, by omega, by rw [nvF_at hk0, ← hv]; omega, ?_⟩
        rcases hq with ⟨z1, z2, z3⟩ | ⟨z1, z2⟩ | ⟨z1, z2⟩ | ⟨z1, z2⟩
        · have z5 := rn_st (show 0 ≤ k by omega) z2
          rw [nx_6] at z5
          omega
        · have z5 := rn_st (show 0 ≤ k by omega) z1
          rw [nx_7] at z5
          omega
        · have z5 := rn_st (show 0 ≤ k by omega) z1
          rw [nx_8] at z5
          omega
        · have z5 := rn_st (show 0 ≤ k by omega) z1
          rw [nx_9] at z5
          omega
  refine L8 _ 0 x1 (Nat.lt_succ_self _) ?_
  have e5 : x1 = p + 1 := by omega
  rw [e5]
  refine ⟨by omega, by omega, ?_, Or.inl ⟨rfl, hp6, rfl⟩⟩
  rw [show p + 1 - (p + 1) = 0 by omega]
  rfl
set_option maxHeartbeats 4000000 in
set_option maxRecDepth 100000 in
theorem k_X4_speakIn {Ω : xO} {h : xM} {t b : Nat} {n p e : Int} {G : Int → Int} {A : aS} (hS : TxS h t) (hT : TR h t n G) (hR : RC h b A) (hd : t + 1 < b ∨ b + 29 ≤ t) (hC : acc (rn G n)) (hp : 0 ≤ p ∧ p < n) (hst : rn G p = 0) (he : e = pe G n p) (h46 : G p ≠ 46) (hpA : aPast A) : xCt Ω yX4_speakIn cX4_speakIn 10 (some .boolean) rm_X4_speakIn [rf t, rf b, vi p, vi e] h (fun q h' => Fr h h' b ∧ ∃ r, q = some (vi r) ∧ r = (scE G (G p - 48) (mkOf G p e) (p + 2) A (weOf G p e)).2.2 ∧ RC h' b (scE G (G p - 48) (mkOf G p e) (p + 2) A (weOf G p e)).1 ∧ aPast (scE G (G p - 48) (mkOf G p e) (p + 2) A (weOf G p e)).1) xNo := by
  refine xCt_of (ini := false) (by decide +kernel) (Nat.le_of_ble_eq_true rfl) (fun q => absurd q (by decide)) ?_
  generalize hPR : (fun q h' => Fr h h' b ∧ ∃ r, q = some (vi r) ∧ r = (scE G (G p - 48) (mkOf G p e) (p + 2) A (weOf G p e)).2.2 ∧ RC h' b (scE G (G p - 48) (mkOf G p e) (p + 2) A (weOf G p e)).1 ∧ aPast (scE G (G p - 48) (mkOf G p e) (p + 2) A (weOf G p e)).1 : Option xV → xM → Prop) = PR
  have K0 : X Ω RX4 cX4_speakIn 10 (some .boolean) false rm_X4_speakIn PR xNo 0 0 0 [some (rf t), some (rf b), some (vi p), some (vi e), none, none, none, none, none, none] [] h := ?_
  exact K0
  obtain ⟨hT1, hT2, hT3⟩ := id hT
  have okA : aOK A := hR.1.2.1
  have okB := okA.1
  have okN := okA.2.1
  have hnB : mI h b 0 = aB A := hR.1.2.2.1
  obtain ⟨pr1, pr2, pr3, pr4⟩ := pe_rng (G := G) (n := n) (p := p) hp.1 (by omega)
  have pac := pe_acc hC hp.1 (show p ≤ n by omega)
  have hs0 := (st_0 hC hp.1 (by omega) hst).2
  rw [← he] at pr1 pr2 pr3 pr4 pac
  have hsd : (48 ≤ G p ∧ G p ≤ 53) ∧ rn G (p + 1) = 1 ∧ G (p + 1) = 58 ∧ rn G (p + 2) = 2 ∧ (49 ≤ G (p + 2) ∧ G (p + 2) ≤ 57) ∧ p + 2 < n := by omega
  have hep : p + 3 ≤ e := by
    rcases pr4 with z | z
    · omega
    · by_cases e9 : e = p
      · rw [e9] at z; omega
      · by_cases e8 : e = p + 1
        · rw [e8] at z; omega
        · by_cases e7 : e = p + 2
          · rw [e7] at z; omega
          · omega
  refine X.aload_n (i := 0) rfl rfl dX4_speakIn_0 (pc' := 1) rfl ?_
  refine X.getR fk_X4_9 xcl_4 dX4_speakIn_1 hS.1 hS.2.1 (pc' := 4) rfl ?_
  refine X.iload_n (i := 2) rfl rfl dX4_speakIn_4 (pc' := 5) rfl ?_
  refine X.cald (x := G p) dX4_speakIn_5 hS.2.2 (by omega) (by omega) ⟨by omega, by omega⟩ (mI_at (hT3 p (by omega) (by omega)).1 (by omega)) (pc' := 6) rfl (fun r1 => ?_)
  obtain ⟨r1a, r1b⟩ := r1
  have r1c := (hT3 p (by omega) (by omega)).2
  refine X.bipush (by decide +kernel) dX4_speakIn_6 (pc' := 8) rfl ?_
  refine X.isub dX4_speakIn_8 (pc' := 9) rfl ?_
  refine X.gen (fun se hse => ?_)
  refine X.istore (i := 4) (ls' := [some (rf t), some (rf b), some (vi p), some (vi e), some (vi se), none, none, none, none, none]) (hd := dX4_speakIn_9) (by decide) rfl rfl (pc' := 11) rfl ?_
  refine X.iload_n (i := 3) rfl rfl dX4_speakIn_11 (pc' := 12) rfl ?_
  refine X.iconst dX4_speakIn_12 (pc' := 13) rfl ?_
  refine X.isub dX4_speakIn_13 (pc' := 14) rfl ?_
  refine X.iload_n (i := 2) rfl rfl dX4_speakIn_14 (pc' := 15) rfl ?_
  refine X.icmp_le (tgt := 35) dX4_speakIn_15 ⟨by omega, by omega⟩ ⟨by omega, by omega⟩ (by decide) (pc' := 18) rfl (fun c15 => ?_) (fun c15 => ?_)
  · refine X.iconst dX4_speakIn_35 (pc' := 36) rfl ?_
    refine X.istore (i := 5) (ls' := [some (rf t), some (rf b), some (vi p), some (vi e), some (vi se), some (vi 0), none, none, none, none]) (hd := dX4_speakIn_36) (by decide) rfl rfl (pc' := 38) rfl ?_
    refine X.iload (i := 5) rfl dX4_speakIn_38 (pc' := 40) rfl ?_
    refine X.if_eq (tgt := 57) dX4_speakIn_40 ⟨by omega, by omega⟩ (by decide) (pc' := 43) rfl (fun c40 => ?_) (fun c40 => by exfalso; omega)
    refine X.iconst dX4_speakIn_57 (pc' := 58) rfl ?_
    refine X.istore (i := 6) (ls' := [some (rf t), some (rf b), some (vi p), some (vi e), some (vi se), some (vi 0), some (vi ((-1))), none, none, none]) (hd := dX4_speakIn_58) (by decide) rfl rfl (pc' := 60) rfl ?_
    refine X.iload (i := 5) rfl dX4_speakIn_60 (pc' := 62) rfl ?_
    refine X.if_eq (tgt := 71) dX4_speakIn_62 ⟨by omega, by omega⟩ (by decide) (pc' := 65) rfl (fun c62 => ?_) (fun c62 => by exfalso; omega)
    refine X.iload_n (i := 3) rfl rfl dX4_speakIn_71 (pc' := 72) rfl ?_
    refine X.istore (i := 7) (ls' := [some (rf t), some (rf b), some (vi p), some (vi e), some (vi se), some (vi 0), some (vi ((-1))), some (vi e), none, none]) (hd := dX4_speakIn_72) (by decide) rfl rfl (pc' := 74) rfl ?_
    have J74 : ∀ (u : Int) (w : Int), (u = mkOf G p e ∧ w = weOf G p e ∧ (-1 ≤ u ∧ u ≤ 9) ∧ (p + 3 ≤ w ∧ w ≤ e) ∧ (rn G w = 3 ∨ rn G w = 4) ∧ ∀ k, p ≤ k → k < w → G k ≠ 35) → X Ω RX4 cX4_speakIn 10 (some .boolean) false rm_X4_speakIn PR xNo 0 0 74 [some (rf t), some (rf b), some (vi p), some (vi e), some (vi se), none, some (vi u), some (vi w), none, none] [] h := by
      intro u w hinv
      obtain ⟨hu, hw, hur, hwe, hrw, hno35⟩ := hinv
      refine X.iconst dX4_speakIn_74 (pc' := 75) rfl ?_
      refine X.istore (i := 8) (ls' := [some (rf t), some (rf b), some (vi p), some (vi e), some (vi se), none, some (vi u), some (vi w), some (vi 0), none]) (hd := dX4_speakIn_75) (by decide) rfl rfl (pc' := 77) rfl ?_
      refine X.iload_n (i := 2) rfl rfl dX4_speakIn_77 (pc' := 78) rfl ?_
      refine X.iconst dX4_speakIn_78 (pc' := 79) rfl ?_
      refine X.iadd dX4_speakIn_79 (pc' := 80) rfl ?_
      refine X.gen (fun x2 hx2 => ?_)
      refine X.istore (i := 9) (ls' := [some (rf t), some (rf b), some (vi p), some (vi e), some (vi se), none, some (vi u), some (vi w), some (vi 0), some (vi x2)]) (hd := dX4_speakIn_80) (by decide) rfl rfl (pc' := 82) rfl ?_
      have L82 : ∀ (n82 : Nat) (g : xM) (A1 : aS) (y : Int) (k : Int), (w + 1 - k).toNat < n82 → (p + 2 ≤ k ∧ k ≤ w + 1 ∧ RC g b A1 ∧ aPast A1 ∧ Fr h g b ∧ (k ≤ w → scF G (G p - 48) u (p + 2) A (k - (p + 2)).toNat = (A1, y, 1) ∧ ((rn G k = 2 ∧ y = 0) ∨ (rn G k = 3 ∧ 1 ≤ y ∧ y ≤ 9) ∨ (rn G k = 4 ∧ 10 ≤ y ∧ y ≤ 99))) ∧ (k = w + 1 → scE G (G p - 48) u (p + 2) A w = (A1, 0, 1))) → X Ω RX4 cX4_speakIn 10 (some .boolean) false rm_X4_speakIn PR xNo 0 0 82 [some (rf t), some (rf b), some (vi p), some (vi e), some (vi se), none, some (vi u), some (vi w), some (vi y), some (vi k)] [] g := by
        intro n82
        induction n82 with
        | zero => intro g A1 y k hm _; exfalso; omega
        | succ n82 ih82 =>
          intro g A1 y k hm82 hinv
          obtain ⟨hk0, hkw1, hRg, hpg, hFg, hlo, hhi⟩ := hinv
          have hSg : TxS g t := hS.sam (hFg.sam (by omega)) (hFg.sam (by omega))
          have hT3g := (hT.sam (hFg.sam (by omega)) (hFg.sam (by omega))).2.2
          have okg : aOK A1 := hRg.1.2.1
          have hB1 := okg.1
          have hW1 := okg.2.1
          have hnB1 : mI g b 0 = aB A1 := hRg.1.2.2.1
          have hnW1 : mI g b 1 = aW A1 := hRg.1.2.2.2.1
          have hyr : 0 ≤ y ∧ y ≤ 99 ∨ k = w + 1 := by
            by_cases z : k ≤ w
            · have := (hlo z).2; omega
            · omega
          refine X.iload (i := 9) rfl dX4_speakIn_82 (pc' := 84) rfl ?_
          refine X.iload (i := 7) rfl dX4_speakIn_84 (pc' := 86) rfl ?_
          refine X.icmp_gt (tgt := 158) dX4_speakIn_86 ⟨by omega, by omega⟩ ⟨by omega, by omega⟩ (by decide) (pc' := 89) rfl (fun c86 => ?_) (fun c86 => ?_)
          · refine X.iconst dX4_speakIn_158 (pc' := 159) rfl ?_
            refine X.iret dX4_speakIn_159 (Or.inr ⟨rfl, by omega⟩) (Nat.le_of_ble_eq_true rfl) (Nat.le_of_ble_eq_true rfl) ?_
            subst hPR
            have hen := hhi (by omega)
            rw [← hu, ← hw, hen]
            exact ⟨hFg, _, rfl, rfl, hRg, hpg⟩
          · refine X.iload (i := 9) rfl dX4_speakIn_89 (pc' := 91) rfl ?_
            refine X.iload (i := 7) rfl dX4_speakIn_91 (pc' := 93) rfl ?_
            refine X.icmp_ge (tgt := 129) dX4_speakIn_93 ⟨by omega, by omega⟩ ⟨by omega, by omega⟩ (by decide) (pc' := 96) rfl (fun c93 => ?_) (fun c93 => ?_)
            · refine X.aload_n (i := 1) rfl rfl dX4_speakIn_129 (pc' := 130) rfl ?_
              refine X.callV (ci := 0) (a := b) (rm := rm_X0_canSpeak) (As := []) (st := []) dX4_speakIn_130 ck_X4_61 rfl (by decide) hRg.1.1.1 rfl rfl ⟨Nat.le_of_ble_eq_true rfl, Nat.le_of_ble_eq_true rfl⟩ (Nat.le_of_ble_eq_true rfl) (Nat.le_of_ble_eq_true rfl) (Nat.le_of_ble_eq_true rfl) (pc' := 133) rfl (k_X0_canSpeak hRg.1.1) (fun q3 hq3 eq3 => ?_) (fun _ _ x1 => x1.elim)
              obtain ⟨rfl, r4, rfl, hr4⟩ := eq3
              refine X.if_ne (tgt := 138) dX4_speakIn_133 ⟨by omega, by omega⟩ (by decide) (pc' := 136) rfl (fun c133 => ?_) (fun c133 => ?_)
              · have hq := (hlo (by omega)).2
                have hyw : 1 ≤ y ∧ y ≤ 99 := by
                  by_cases z : k = w
                  · rw [← z] at hrw; omega
                  · rcases hq with ⟨z1, z2⟩ | ⟨z1, z2⟩ | ⟨z1, z2⟩
                    · exfalso
                      have z5 := rn_st (show 0 ≤ k by omega) z1
                      have hnk := rn_ok hC (show 0 ≤ k + 1 by omega) (by omega)
                      rw [nx_2] at z5
                      omega
                    · omega
                    · omega
                have hok1 := aAdd_ok (s := G p - 48) (w := y) (m := u) okg hpg (by omega) ⟨by omega, by omega⟩ ⟨by omega, by omega⟩ ⟨by omega, by omega⟩
                refine X.aload_n (i := 1) rfl rfl dX4_speakIn_138 (pc' := 139) rfl ?_
                refine X.iload (i := 4) rfl dX4_speakIn_139 (pc' := 141) rfl ?_
                refine X.iload (i := 8) rfl dX4_speakIn_141 (pc' := 143) rfl ?_
                refine X.iload (i := 6) rfl dX4_speakIn_143 (pc' := 145) rfl ?_
                refine X.callV (ci := 0) (a := b) (rm := rm_X0_speak) (As := [vi se, vi y, vi u]) (st := []) dX4_speakIn_145 ck_X4_65 rfl (by decide) hRg.1.1.1 rfl rfl ⟨Nat.le_of_ble_eq_true rfl, Nat.le_of_ble_eq_true rfl⟩ (Nat.le_of_ble_eq_true rfl) (Nat.le_of_ble_eq_true rfl) (Nat.le_of_ble_eq_true rfl) (pc' := 148) rfl (k_X0_speak hRg hpg (by omega) (by omega) ⟨by omega, by omega⟩ ⟨by omega, by omega⟩ ⟨by omega, by omega⟩) (fun q5 hq5 eq5 => ?_) (fun _ _ x1 => x1.elim)
                obtain ⟨rfl, hRE, hFE⟩ := eq5
                rw [hse] at hRE
                refine X.pop rfl dX4_speakIn_148 (pc' := 149) rfl ?_
                refine X.iconst dX4_speakIn_149 (pc' := 150) rfl ?_
                refine X.istore (i := 8) (ls' := [some (rf t), some (rf b), some (vi p), some (vi e), some (vi se), none, some (vi u), some (vi w), some (vi 0), some (vi k)]) (hd := dX4_speakIn_150) (by decide) rfl rfl (pc' := 152) rfl ?_
                refine X.iinc (i := 9) (ls' := [some (rf t), some (rf b), some (vi p), some (vi e), some (vi se), none, some (vi u), some (vi w), some (vi 0), some (vi (k + 1))]) dX4_speakIn_152 rfl (by decide) rfl rfl (pc' := 155) rfl ?_
                refine X.goto (tgt := 82) dX4_speakIn_155 (by decide) ?_
                refine ih82 hq5 (aEnd (aAdd A1 (G p - 48) y u)) 0 (k + 1) (by omega) ?_
                obtain ⟨hsc, hq⟩ := hlo (by omega)
                have hsp : spk (G p - 48) u (A1, y, 1) = (aEnd (aAdd A1 (G p - 48) y u), 0, 1) := by
                  unfold spk
                  rw [if_pos ⟨rfl, (show aW A1 < 200 by omega), (show aB A1 < 400 by omega)⟩]
                have ek : k = w := by omega
                refine ⟨by omega, by omega, hRE, aEnd_past hok1, hFg.tr hFE, fun z => by omega, fun _ => ?_⟩
                unfold scE
                rw [← ek, hsc, hsp]
              · refine X.iconst dX4_speakIn_136 (pc' := 137) rfl ?_
                refine X.iret dX4_speakIn_137 (Or.inr ⟨rfl, by omega⟩) (Nat.le_of_ble_eq_true rfl) (Nat.le_of_ble_eq_true rfl) ?_
                subst hPR
                have hde := scE_dead (G := G) (s := G p - 48) (u := u) (A := A) hk0 (show k ≤ w by omega) (hlo (by omega)).1 (by omega) (by omega)
                rw [← hu, ← hw, hde.1, hde.2]
                exact ⟨hFg, _, rfl, rfl, hRg, hpg⟩
            · refine X.aload_n (i := 0) rfl rfl dX4_speakIn_96 (pc' := 97) rfl ?_
              refine X.getR fk_X4_9 xcl_4 dX4_speakIn_97 hSg.1 hSg.2.1 (pc' := 100) rfl ?_
              refine X.iload (i := 9) rfl dX4_speakIn_100 (pc' := 102) rfl ?_
              refine X.cald (x := G k) dX4_speakIn_102 hSg.2.2 (by omega) (by omega) ⟨by omega, by omega⟩ (mI_at (hT3g k (by omega) (by omega)).1 (by omega)) (pc' := 103) rfl (fun r6 => ?_)
              obtain ⟨r6a, r6b⟩ := r6
              have r6c := (hT3g k (by omega) (by omega)).2
              refine X.bipush (by decide +kernel) dX4_speakIn_103 (pc' := 105) rfl ?_
              refine X.icmp_eq (tgt := 129) dX4_speakIn_105 ⟨by omega, by omega⟩ ⟨by omega, by omega⟩ (by decide) (pc' := 108) rfl (fun c105 => ?_) (fun c105 => ?_)
              · refine X.aload_n (i := 1) rfl rfl dX4_speakIn_129 (pc' := 130) rfl ?_
                refine X.callV (ci := 0) (a := b) (rm := rm_X0_canSpeak) (As := []) (st := []) dX4_speakIn_130 ck_X4_61 rfl (by decide) hRg.1.1.1 rfl rfl ⟨Nat.le_of_ble_eq_true rfl, Nat.le_of_ble_eq_true rfl⟩ (Nat.le_of_ble_eq_true rfl) (Nat.le_of_ble_eq_true rfl) (Nat.le_of_ble_eq_true rfl) (pc' := 133) rfl (k_X0_canSpeak hRg.1.1) (fun q7 hq7 eq7 => ?_) (fun _ _ x1 => x1.elim)
                obtain ⟨rfl, r8, rfl, hr8⟩ := eq7
                refine X.if_ne (tgt := 138) dX4_speakIn_133 ⟨by omega, by omega⟩ (by decide) (pc' := 136) rfl (fun c133 => ?_) (fun c133 => ?_)
                · have hq := (hlo (by omega)).2
                  have hyw : 1 ≤ y ∧ y ≤ 99 := by
                    by_cases z : k = w
                    · rw [← z] at hrw; omega
                    · rcases hq with ⟨z1, z2⟩ | ⟨z1, z2⟩ | ⟨z1, z2⟩
                      · exfalso
                        have z5 := rn_st (show 0 ≤ k by omega) z1
                        have hnk := rn_ok hC (show 0 ≤ k + 1 by omega) (by omega)
                        rw [nx_2] at z5
                        omega
                      · omega
                      · omega
                  have hok1 := aAdd_ok (s := G p - 48) (w := y) (m := u) okg hpg (by omega) ⟨by omega, by omega⟩ ⟨by omega, by omega⟩ ⟨by omega, by omega⟩
                  refine X.aload_n (i := 1) rfl rfl dX4_speakIn_138 (pc' := 139) rfl ?_
                  refine X.iload (i := 4) rfl dX4_speakIn_139 (pc' := 141) rfl ?_
                  refine X.iload (i := 8) rfl dX4_speakIn_141 (pc' := 143) rfl ?_
                  refine X.iload (i := 6) rfl dX4_speakIn_143 (pc' := 145) rfl ?_
                  refine X.callV (ci := 0) (a := b) (rm := rm_X0_speak) (As := [vi se, vi y, vi u]) (st := []) dX4_speakIn_145 ck_X4_65 rfl (by decide) hRg.1.1.1 rfl rfl ⟨Nat.le_of_ble_eq_true rfl, Nat.le_of_ble_eq_true rfl⟩ (Nat.le_of_ble_eq_true rfl) (Nat.le_of_ble_eq_true rfl) (Nat.le_of_ble_eq_true rfl) (pc' := 148) rfl (k_X0_speak hRg hpg (by omega) (by omega) ⟨by omega, by omega⟩ ⟨by omega, by omega⟩ ⟨by omega, by omega⟩) (fun q9 hq9 eq9 => ?_) (fun _ _ x1 => x1.elim)
                  obtain ⟨rfl, hRE, hFE⟩ := eq9
                  rw [hse] at hRE
                  refine X.pop rfl dX4_speakIn_148 (pc' := 149) rfl ?_
                  refine X.iconst dX4_speakIn_149 (pc' := 150) rfl ?_
                  refine X.istore (i := 8) (ls' := [some (rf t), some (rf b), some (vi p), some (vi e), some (vi se), none, some (vi u), some (vi w), some (vi 0), some (vi k)]) (hd := dX4_speakIn_150) (by decide) rfl rfl (pc' := 152) rfl ?_
                  refine X.iinc (i := 9) (ls' := [some (rf t), some (rf b), some (vi p), some (vi e), some (vi se), none, some (vi u), some (vi w), some (vi 0), some (vi (k + 1))]) dX4_speakIn_152 rfl (by decide) rfl rfl (pc' := 155) rfl ?_
                  refine X.goto (tgt := 82) dX4_speakIn_155 (by decide) ?_
                  refine ih82 hq9 (aEnd (aAdd A1 (G p - 48) y u)) 0 (k + 1) (by omega) ?_
                  obtain ⟨hsc, hq⟩ := hlo (by omega)
                  have hsp : spk (G p - 48) u (A1, y, 1) = (aEnd (aAdd A1 (G p - 48) y u), 0, 1) := by
                    unfold spk
                    rw [if_pos ⟨rfl, (show aW A1 < 200 by omega), (show aB A1 < 400 by omega)⟩]
                  have hnk := rn_ok hC (show 0 ≤ k + 1 by omega) (by omega)
                  refine ⟨by omega, by omega, hRE, aEnd_past hok1, hFg.tr hFE, fun _ => ⟨?_, Or.inl ⟨?_, rfl⟩⟩, fun z => by omega⟩
                  · rw [scF_at hk0, hsc, scS_44 (by omega), hsp]
                  · rcases hq with ⟨z1, z2⟩ | ⟨z1, z2⟩ | ⟨z1, z2⟩
                    · have z5 := rn_st (show 0 ≤ k by omega) z1
                      rw [nx_2] at z5
                      omega
                    · have z5 := rn_st (show 0 ≤ k by omega) z1
                      rw [nx_3] at z5
                      omega
                    · have z5 := rn_st (show 0 ≤ k by omega) z1
                      rw [nx_4] at z5
                      omega
                · refine X.iconst dX4_speakIn_136 (pc' := 137) rfl ?_
                  refine X.iret dX4_speakIn_137 (Or.inr ⟨rfl, by omega⟩) (Nat.le_of_ble_eq_true rfl) (Nat.le_of_ble_eq_true rfl) ?_
                  subst hPR
                  have hde := scE_dead (G := G) (s := G p - 48) (u := u) (A := A) hk0 (show k ≤ w by omega) (hlo (by omega)).1 (by omega) (by omega)
                  rw [← hu, ← hw, hde.1, hde.2]
                  exact ⟨hFg, _, rfl, rfl, hRg, hpg⟩
              · refine X.iload (i := 8) rfl dX4_speakIn_108 (pc' := 110) rfl ?_
                refine X.bipush (by decide +kernel) dX4_speakIn_110 (pc' := 112) rfl ?_
                refine X.imul dX4_speakIn_112 (pc' := 113) rfl ?_
                refine X.aload_n (i := 0) rfl rfl dX4_speakIn_113 (pc' := 114) rfl ?_
                refine X.getR fk_X4_9 xcl_4 dX4_speakIn_114 hSg.1 hSg.2.1 (pc' := 117) rfl ?_
                refine X.iload (i := 9) rfl dX4_speakIn_117 (pc' := 119) rfl ?_
                refine X.cald (x := G k) dX4_speakIn_119 hSg.2.2 (by omega) (by omega) ⟨by omega, by omega⟩ (mI_at (hT3g k (by omega) (by omega)).1 (by omega)) (pc' := 120) rfl (fun r10 => ?_)
                obtain ⟨r10a, r10b⟩ := r10
                have r10c := (hT3g k (by omega) (by omega)).2
                refine X.bipush (by decide +kernel) dX4_speakIn_120 (pc' := 122) rfl ?_
                refine X.isub dX4_speakIn_122 (pc' := 123) rfl ?_
                refine X.iadd dX4_speakIn_123 (pc' := 124) rfl ?_
                refine X.gen (fun x11 hx11 => ?_)
                refine X.istore (i := 8) (ls' := [some (rf t), some (rf b), some (vi p), some (vi e), some (vi se), none, some (vi u), some (vi w), some (vi x11), some (vi k)]) (hd := dX4_speakIn_124) (by decide) rfl rfl (pc' := 126) rfl ?_
                refine X.goto (tgt := 152) dX4_speakIn_126 (by decide) ?_
                refine X.iinc (i := 9) (ls' := [some (rf t), some (rf b), some (vi p), some (vi e), some (vi se), none, some (vi u), some (vi w), some (vi x11), some (vi (k + 1))]) dX4_speakIn_152 rfl (by decide) rfl rfl (pc' := 155) rfl ?_
                refine X.goto (tgt := 82) dX4_speakIn_155 (by decide) ?_
                refine ih82 g A1 x11 (k + 1) (by omega) ?_
                have hkw : k < w := by omega
                obtain ⟨hsc, hq⟩ := hlo (by omega)
                have h35 := hno35 k (by omega) hkw
                have hk59 := pr3 k (by omega) (by omega)
                have hnk := rn_ok hC (show 0 ≤ k + 1 by omega) (by omega)
                refine ⟨by omega, by omega, hRg, hpg, hFg, fun _ => ⟨?_, ?_⟩, fun z => by omega⟩
                · rw [scF_at hk0, hsc, scS_in (by omega)]
                  simp only [Prod.mk.injEq, true_and, and_true]
                  omega
                · rcases hq with ⟨z1, z2⟩ | ⟨z1, z2⟩ | ⟨z1, z2⟩
                  · have z5 := rn_st (show 0 ≤ k by omega) z1
                    rw [nx_2] at z5
                    omega
                  · have z5 := rn_st (show 0 ≤ k by omega) z1
                    rw [nx_3] at z5
                    omega
                  · have z5 := rn_st (show 0 ≤ k by omega) z1
                    rw [nx_4] at z5
                    omega
      refine L82 _ h A 0 x2 (Nat.lt_succ_self _) ?_
      have e5 : x2 = p + 2 := by omega
      rw [e5]
      refine ⟨by omega, by omega, hR, hpA, Fr.rf, fun _ => ⟨?_, Or.inl ⟨hsd.2.2.2.1, rfl⟩⟩, fun z => by omega⟩
      rw [show p + 2 - (p + 2) = 0 by omega]
      rfl
    refine X.mask (bs := [true, true, true, true, true, false, true, true, false, false]) (ls' := [some (rf t), some (rf b), some (vi p), some (vi e), some (vi se), none, some (vi ((-1))), some (vi e), none, none]) rfl ?_
    refine J74 ((-1)) e ?_
    have hce : ¬ (p < e - 2 ∧ G (e - 2) = 35) := by omega
    have hac := pac.1
    unfold acc at hac
    have hno : ∀ k, p ≤ k → k < e → G k ≠ 35 := fun k z1 z2 z3 => by
      have hh2 := (tx_hash hC hp.1 z1 (by omega) (by omega) z3).1
      have z4 : k = e - 2 := by omega
      rw [z4] at z3
      omega
    refine ⟨by unfold mkOf; rw [if_neg hce], by unfold weOf; rw [if_neg hce], by omega, by omega, ?_, hno⟩
    have hss := say_st hC hp.1 hsd.2.2.2.1 (e - (p + 2)).toNat (by omega) (fun j z1 z2 => ⟨pr3 j z1 (by omega), hno j z1 (by omega)⟩)
    rw [show p + 2 + ((e - (p + 2)).toNat : Int) = e by omega] at hss
    omega
  · refine X.aload_n (i := 0) rfl rfl dX4_speakIn_18 (pc' := 19) rfl ?_
    refine X.getR fk_X4_9 xcl_4 dX4_speakIn_19 hS.1 hS.2.1 (pc' := 22) rfl ?_
    refine X.iload_n (i := 3) rfl rfl dX4_speakIn_22 (pc' := 23) rfl ?_
    refine X.iconst dX4_speakIn_23 (pc' := 24) rfl ?_
    refine X.isub dX4_speakIn_24 (pc' := 25) rfl ?_
    refine X.cald (x := G (e - 2)) dX4_speakIn_25 hS.2.2 (by omega) (by omega) ⟨by omega, by omega⟩ (mI_at (hT3 (e - 2) (by omega) (by omega)).1 (by omega)) (pc' := 26) rfl (fun r12 => ?_)
    obtain ⟨r12a, r12b⟩ := r12
    have r12c := (hT3 (e - 2) (by omega) (by omega)).2
    refine X.bipush (by decide +kernel) dX4_speakIn_26 (pc' := 28) rfl ?_
    refine X.icmp_ne (tgt := 35) dX4_speakIn_28 ⟨by omega, by omega⟩ ⟨by omega, by omega⟩ (by decide) (pc' := 31) rfl (fun c28 => ?_) (fun c28 => ?_)
    · refine X.iconst dX4_speakIn_35 (pc' := 36) rfl ?_
      refine X.istore (i := 5) (ls' := [some (rf t), some (rf b), some (vi p), some (vi e), some (vi se), some (vi 0), none, none, none, none]) (hd := dX4_speakIn_36) (by decide) rfl rfl (pc' := 38) rfl ?_
      refine X.iload (i := 5) rfl dX4_speakIn_38 (pc' := 40) rfl ?_
      refine X.if_eq (tgt := 57) dX4_speakIn_40 ⟨by omega, by omega⟩ (by decide) (pc' := 43) rfl (fun c40 => ?_) (fun c40 => by exfalso; omega)
      refine X.iconst dX4_speakIn_57 (pc' := 58) rfl ?_
      refine X.istore (i := 6) (ls' := [some (rf t), some (rf b), some (vi p), some (vi e), some (vi se), some (vi 0), some (vi ((-1))), none, none, none]) (hd := dX4_speakIn_58) (by decide) rfl rfl (pc' := 60) rfl ?_
      refine X.iload (i := 5) rfl dX4_speakIn_60 (pc' := 62) rfl ?_
      refine X.if_eq (tgt := 71) dX4_speakIn_62 ⟨by omega, by omega⟩ (by decide) (pc' := 65) rfl (fun c62 => ?_) (fun c62 => by exfalso; omega)
      refine X.iload_n (i := 3) rfl rfl dX4_speakIn_71 (pc' := 72) rfl ?_
      refine X.istore (i := 7) (ls' := [some (rf t), some (rf b), some (vi p), some (vi e), some (vi se), some (vi 0), some (vi ((-1))), some (vi e), none, none]) (hd := dX4_speakIn_72) (by decide) rfl rfl (pc' := 74) rfl ?_
      have J74 : ∀ (u : Int) (w : Int), (u = mkOf G p e ∧ w = weOf G p e ∧ (-1 ≤ u ∧ u ≤ 9) ∧ (p + 3 ≤ w ∧ w ≤ e) ∧ (rn G w = 3 ∨ rn G w = 4) ∧ ∀ k, p ≤ k → k < w → G k ≠ 35) → X Ω RX4 cX4_speakIn 10 (some .boolean) false rm_X4_speakIn PR xNo 0 0 74 [some (rf t), some (rf b), some (vi p), some (vi e), some (vi se), none, some (vi u), some (vi w), none, none] [] h := by
        intro u w hinv
        obtain ⟨hu, hw, hur, hwe, hrw, hno35⟩ := hinv
        refine X.iconst dX4_speakIn_74 (pc' := 75) rfl ?_
        refine X.istore (i := 8) (ls' := [some (rf t), some (rf b), some (vi p), some (vi e), some (vi se), none, some (vi u), some (vi w), some (vi 0), none]) (hd := dX4_speakIn_75) (by decide) rfl rfl (pc' := 77) rfl ?_
        refine X.iload_n (i := 2) rfl rfl dX4_speakIn_77 (pc' := 78) rfl ?_
        refine X.iconst dX4_speakIn_78 (pc' := 79) rfl ?_
        refine X.iadd dX4_speakIn_79 (pc' := 80) rfl ?_
        refine X.gen (fun x13 hx13 => ?_)
        refine X.istore (i := 9) (ls' := [some (rf t), some (rf b), some (vi p), some (vi e), some (vi se), none, some (vi u), some (vi w), some (vi 0), some (vi x13)]) (hd := dX4_speakIn_80) (by decide) rfl rfl (pc' := 82) rfl ?_
        have L82 : ∀ (n82 : Nat) (g : xM) (A1 : aS) (y : Int) (k : Int), (w + 1 - k).toNat < n82 → (p + 2 ≤ k ∧ k ≤ w + 1 ∧ RC g b A1 ∧ aPast A1 ∧ Fr h g b ∧ (k ≤ w → scF G (G p - 48) u (p + 2) A (k - (p + 2)).toNat = (A1, y, 1) ∧ ((rn G k = 2 ∧ y = 0) ∨ (rn G k = 3 ∧ 1 ≤ y ∧ y ≤ 9) ∨ (rn G k = 4 ∧ 10 ≤ y ∧ y ≤ 99))) ∧ (k = w + 1 → scE G (G p - 48) u (p + 2) A w = (A1, 0, 1))) → X Ω RX4 cX4_speakIn 10 (some .boolean) false rm_X4_speakIn PR xNo 0 0 82 [some (rf t), some (rf b), some (vi p), some (vi e), some (vi se), none, some (vi u), some (vi w), some (vi y), some (vi k)] [] g := by
          intro n82
          induction n82 with
          | zero => intro g A1 y k hm _; exfalso; omega
          | succ n82 ih82 =>
            intro g A1 y k hm82 hinv
            obtain ⟨hk0, hkw1, hRg, hpg, hFg, hlo, hhi⟩ := hinv
            have hSg : TxS g t := hS.sam (hFg.sam (by omega)) (hFg.sam (by omega))
            have hT3g := (hT.sam (hFg.sam (by omega)) (hFg.sam (by omega))).2.2
            have okg : aOK A1 := hRg.1.2.1
            have hB1 := okg.1
            have hW1 := okg.2.1
            have hnB1 : mI g b 0 = aB A1 := hRg.1.2.2.1
            have hnW1 : mI g b 1 = aW A1 := hRg.1.2.2.2.1
            have hyr : 0 ≤ y ∧ y ≤ 99 ∨ k = w + 1 := by
              by_cases z : k ≤ w
              · have := (hlo z).2; omega
              · omega
            refine X.iload (i := 9) rfl dX4_speakIn_82 (pc' := 84) rfl ?_
            refine X.iload (i := 7) rfl dX4_speakIn_84 (pc' := 86) rfl ?_
            refine X.icmp_gt (tgt := 158) dX4_speakIn_86 ⟨by omega, by omega⟩ ⟨by omega, by omega⟩ (by decide) (pc' := 89) rfl (fun c86 => ?_) (fun c86 => ?_)
            · refine X.iconst dX4_speakIn_158 (pc' := 159) rfl ?_
              refine X.iret dX4_speakIn_159 (Or.inr ⟨rfl, by omega⟩) (Nat.le_of_ble_eq_true rfl) (Nat.le_of_ble_eq_true rfl) ?_
              subst hPR
              have hen := hhi (by omega)
              rw [← hu, ← hw, hen]
              exact ⟨hFg, _, rfl, rfl, hRg, hpg⟩
            · refine X.iload (i := 9) rfl dX4_speakIn_89 (pc' := 91) rfl ?_
              refine X.iload (i := 7) rfl dX4_speakIn_91 (pc' := 93) rfl ?_
              refine X.icmp_ge (tgt := 129) dX4_speakIn_93 ⟨by omega, by omega⟩ ⟨by omega, by omega⟩ (by decide) (pc' := 96) rfl (fun c93 => ?_) (fun c93 => ?_)
              · refine X.aload_n (i := 1) rfl rfl dX4_speakIn_129 (pc' := 130) rfl ?_
                refine X.callV (ci := 0) (a := b) (rm := rm_X0_canSpeak) (As := []) (st := []) dX4_speakIn_130 ck_X4_61 rfl (by decide) hRg.1.1.1 rfl rfl ⟨Nat.le_of_ble_eq_true rfl, Nat.le_of_ble_eq_true rfl⟩ (Nat.le_of_ble_eq_true rfl) (Nat.le_of_ble_eq_true rfl) (Nat.le_of_ble_eq_true rfl) (pc' := 133) rfl (k_X0_canSpeak hRg.1.1) (fun q14 hq14 eq14 => ?_) (fun _ _ x1 => x1.elim)
                obtain ⟨rfl, r15, rfl, hr15⟩ := eq14
                refine X.if_ne (tgt := 138) dX4_speakIn_133 ⟨by omega, by omega⟩ (by decide) (pc' := 136) rfl (fun c133 => ?_) (fun c133 => ?_)
                · have hq := (hlo (by omega)).2
                  have hyw : 1 ≤ y ∧ y ≤ 99 := by
                    by_cases z : k = w
                    · rw [← z] at hrw; omega
                    · rcases hq with ⟨z1, z2⟩ | ⟨z1, z2⟩ | ⟨z1, z2⟩
                      · exfalso
                        have z5 := rn_st (show 0 ≤ k by omega) z1
                        have hnk := rn_ok hC (show 0 ≤ k + 1 by omega) (by omega)
                        rw [nx_2] at z5
                        omega
                      · omega
                      · omega
                  have hok1 := aAdd_ok (s := G p - 48) (w := y) (m := u) okg hpg (by omega) ⟨by omega, by omega⟩ ⟨by omega, by omega⟩ ⟨by omega, by omega⟩
                  refine X.aload_n (i := 1) rfl rfl dX4_speakIn_138 (pc' := 139) rfl ?_
                  refine X.iload (i := 4) rfl dX4_speakIn_139 (pc' := 141) rfl ?_
                  refine X.iload (i := 8) rfl dX4_speakIn_141 (pc' := 143) rfl ?_
                  refine X.iload (i := 6) rfl dX4_speakIn_143 (pc' := 145) rfl ?_
                  refine X.callV (ci := 0) (a := b) (rm := rm_X0_speak) (As := [vi se, vi y, vi u]) (st := []) dX4_speakIn_145 ck_X4_65 rfl (by decide) hRg.1.1.1 rfl rfl ⟨Nat.le_of_ble_eq_true rfl, Nat.le_of_ble_eq_true rfl⟩ (Nat.le_of_ble_eq_true rfl) (Nat.le_of_ble_eq_true rfl) (Nat.le_of_ble_eq_true rfl) (pc' := 148) rfl (k_X0_speak hRg hpg (by omega) (by omega) ⟨by omega, by omega⟩ ⟨by omega, by omega⟩ ⟨by omega, by omega⟩) (fun q16 hq16 eq16 => ?_) (fun _ _ x1 => x1.elim)
                  obtain ⟨rfl, hRE, hFE⟩ := eq16
                  rw [hse] at hRE
                  refine X.pop rfl dX4_speakIn_148 (pc' := 149) rfl ?_
                  refine X.iconst dX4_speakIn_149 (pc' := 150) rfl ?_
                  refine X.istore (i := 8) (ls' := [some (rf t), some (rf b), some (vi p), some (vi e), some (vi se), none, some (vi u), some (vi w), some (vi 0), some (vi k)]) (hd := dX4_speakIn_150) (by decide) rfl rfl (pc' := 152) rfl ?_
                  refine X.iinc (i := 9) (ls' := [some (rf t), some (rf b), some (vi p), some (vi e), some (vi se), none, some (vi u), some (vi w), some (vi 0), some (vi (k + 1))]) dX4_speakIn_152 rfl (by decide) rfl rfl (pc' := 155) rfl ?_
                  refine X.goto (tgt := 82) dX4_speakIn_155 (by decide) ?_
                  refine ih82 hq16 (aEnd (aAdd A1 (G p - 48) y u)) 0 (k + 1) (by omega) ?_
                  obtain ⟨hsc, hq⟩ := hlo (by omega)
                  have hsp : spk (G p - 48) u (A1, y, 1) = (aEnd (aAdd A1 (G p - 48) y u), 0, 1) := by
                    unfold spk
                    rw [if_pos ⟨rfl, (show aW A1 < 200 by omega), (show aB A1 < 400 by omega)⟩]
                  have ek : k = w := by omega
                  refine ⟨by omega, by omega, hRE, aEnd_past hok1, hFg.tr hFE, fun z => by omega, fun _ => ?_⟩
                  unfold scE
                  rw [← ek, hsc, hsp]
                · refine X.iconst dX4_speakIn_136 (pc' := 137) rfl ?_
                  refine X.iret dX4_speakIn_137 (Or.inr ⟨rfl, by omega⟩) (Nat.le_of_ble_eq_true rfl) (Nat.le_of_ble_eq_true rfl) ?_
                  subst hPR
                  have hde := scE_dead (G := G) (s := G p - 48) (u := u) (A := A) hk0 (show k ≤ w by omega) (hlo (by omega)).1 (by omega) (by omega)
                  rw [← hu, ← hw, hde.1, hde.2]
                  exact ⟨hFg, _, rfl, rfl, hRg, hpg⟩
              · refine X.aload_n (i := 0) rfl rfl dX4_speakIn_96 (pc' := 97) rfl ?_
                refine X.getR fk_X4_9 xcl_4 dX4_speakIn_97 hSg.1 hSg.2.1 (pc' := 100) rfl ?_
                refine X.iload (i := 9) rfl dX4_speakIn_100 (pc' := 102) rfl ?_
                refine X.cald (x := G k) dX4_speakIn_102 hSg.2.2 (by omega) (by omega) ⟨by omega, by omega⟩ (mI_at (hT3g k (by omega) (by omega)).1 (by omega)) (pc' := 103) rfl (fun r17 => ?_)
                obtain ⟨r17a, r17b⟩ := r17
                have r17c := (hT3g k (by omega) (by omega)).2
                refine X.bipush (by decide +kernel) dX4_speakIn_103 (pc' := 105) rfl ?_
                refine X.icmp_eq (tgt := 129) dX4_speakIn_105 ⟨by omega, by omega⟩ ⟨by omega, by omega⟩ (by decide) (pc' := 108) rfl (fun c105 => ?_) (fun c105 => ?_)
                · refine X.aload_n (i := 1) rfl rfl dX4_speakIn_129 (pc' := 130) rfl ?_
                  refine X.callV (ci := 0) (a := b) (rm := rm_X0_canSpeak) (As := []) (st := []) dX4_speakIn_130 ck_X4_61 rfl (by decide) hRg.1.1.1 rfl rfl ⟨Nat.le_of_ble_eq_true rfl, Nat.le_of_ble_eq_true rfl⟩ (Nat.le_of_ble_eq_true rfl) (Nat.le_of_ble_eq_true rfl) (Nat.le_of_ble_eq_true rfl) (pc' := 133) rfl (k_X0_canSpeak hRg.1.1) (fun q18 hq18 eq18 => ?_) (fun _ _ x1 => x1.elim)
                  obtain ⟨rfl, r19, rfl, hr19⟩ := eq18
                  refine X.if_ne (tgt := 138) dX4_speakIn_133 ⟨by omega, by omega⟩ (by decide) (pc' := 136) rfl (fun c133 => ?_) (fun c133 => ?_)
                  · have hq := (hlo (by omega)).2
                    have hyw : 1 ≤ y ∧ y ≤ 99 := by
                      by_cases z : k = w
                      · rw [← z] at hrw; omega
                      · rcases hq with ⟨z1, z2⟩ | ⟨z1, z2⟩ | ⟨z1, z2⟩
                        · exfalso
                          have z5 := rn_st (show 0 ≤ k by omega) z1
                          have hnk := rn_ok hC (show 0 ≤ k + 1 by omega) (by omega)
                          rw [nx_2] at z5
                          omega
                        · omega
                        · omega
                    have hok1 := aAdd_ok (s := G p - 48) (w := y) (m := u) okg hpg (by omega) ⟨by omega, by omega⟩ ⟨by omega, by omega⟩ ⟨by omega, by omega⟩
                    refine X.aload_n (i := 1) rfl rfl dX4_speakIn_138 (pc' := 139) rfl ?_
                    refine X.iload (i := 4) rfl dX4_speakIn_139 (pc' := 141) rfl ?_
                    refine X.iload (i := 8) rfl dX4_speakIn_141 (pc' := 143) rfl ?_
                    refine X.iload (i := 6) rfl dX4_speakIn_143 (pc' := 145) rfl ?_
                    refine X.callV (ci := 0) (a := b) (rm := rm_X0_speak) (As := [vi se, vi y, vi u]) (st := []) dX4_speakIn_145 ck_X4_65 rfl (by decide) hRg.1.1.1 rfl rfl ⟨Nat.le_of_ble_eq_true rfl, Nat.le_of_ble_eq_true rfl⟩ (Nat.le_of_ble_eq_true rfl) (Nat.le_of_ble_eq_true rfl) (Nat.le_of_ble_eq_true rfl) (pc' := 148) rfl (k_X0_speak hRg hpg (by omega) (by omega) ⟨by omega, by omega⟩ ⟨by omega, by omega⟩ ⟨by omega, by omega⟩) (fun q20 hq20 eq20 => ?_) (fun _ _ x1 => x1.elim)
                    obtain ⟨rfl, hRE, hFE⟩ := eq20
                    rw [hse] at hRE
                    refine X.pop rfl dX4_speakIn_148 (pc' := 149) rfl ?_
                    refine X.iconst dX4_speakIn_149 (pc' := 150) rfl ?_
                    refine X.istore (i := 8) (ls' := [some (rf t), some (rf b), some (vi p), some (vi e), some (vi se), none, some (vi u), some (vi w), some (vi 0), some (vi k)]) (hd := dX4_speakIn_150) (by decide) rfl rfl (pc' := 152) rfl ?_
                    refine X.iinc (i := 9) (ls' := [some (rf t), some (rf b), some (vi p), some (vi e), some (vi se), none, some (vi u), some (vi w), some (vi 0), some (vi (k + 1))]) dX4_speakIn_152 rfl (by decide) rfl rfl (pc' := 155) rfl ?_
                    refine X.goto (tgt := 82) dX4_speakIn_155 (by decide) ?_
                    refine ih82 hq20 (aEnd (aAdd A1 (G p - 48) y u)) 0 (k + 1) (by omega) ?_
                    obtain ⟨hsc, hq⟩ := hlo (by omega)
                    have hsp : spk (G p - 48) u (A1, y, 1) = (aEnd (aAdd A1 (G p - 48) y u), 0, 1) := by
                      unfold spk
                      rw [if_pos ⟨rfl, (show aW A1 < 200 by omega), (show aB A1 < 400 by omega)⟩]
                    have hnk := rn_ok hC (show 0 ≤ k + 1 by omega) (by omega)
                    refine ⟨by omega, by omega, hRE, aEnd_past hok1, hFg.tr hFE, fun _ => ⟨?_, Or.inl ⟨?_, rfl⟩⟩, fun z => by omega⟩
                    · rw [scF_at hk0, hsc, scS_44 (by omega), hsp]
                    · rcases hq with ⟨z1, z2⟩ | ⟨z1, z2⟩ | ⟨z1, z2⟩
                      · have z5 := rn_st (show 0 ≤ k by omega) z1
                        rw [nx_2] at z5
                        omega
                      · have z5 := rn_st (show 0 ≤ k by omega) z1
                        rw [nx_3] at z5
                        omega
                      · have z5 := rn_st (show 0 ≤ k by omega) z1
                        rw [nx_4] at z5
                        omega
                  · refine X.iconst dX4_speakIn_136 (pc' := 137) rfl ?_
                    refine X.iret dX4_speakIn_137 (Or.inr ⟨rfl, by omega⟩) (Nat.le_of_ble_eq_true rfl) (Nat.le_of_ble_eq_true rfl) ?_
                    subst hPR
                    have hde := scE_dead (G := G) (s := G p - 48) (u := u) (A := A) hk0 (show k ≤ w by omega) (hlo (by omega)).1 (by omega) (by omega)
                    rw [← hu, ← hw, hde.1, hde.2]
                    exact ⟨hFg, _, rfl, rfl, hRg, hpg⟩
                · refine X.iload (i := 8) rfl dX4_speakIn_108 (pc' := 110) rfl ?_
                  refine X.bipush (by decide +kernel) dX4_speakIn_110 (pc' := 112) rfl ?_
                  refine X.imul dX4_speakIn_112 (pc' := 113) rfl ?_
                  refine X.aload_n (i := 0) rfl rfl dX4_speakIn_113 (pc' := 114) rfl ?_
                  refine X.getR fk_X4_9 xcl_4 dX4_speakIn_114 hSg.1 hSg.2.1 (pc' := 117) rfl ?_
                  refine X.iload (i := 9) rfl dX4_speakIn_117 (pc' := 119) rfl ?_
                  refine X.cald (x := G k) dX4_speakIn_119 hSg.2.2 (by omega) (by omega) ⟨by omega, by omega⟩ (mI_at (hT3g k (by omega) (by omega)).1 (by omega)) (pc' := 120) rfl (fun r21 => ?_)
                  obtain ⟨r21a, r21b⟩ := r21
                  have r21c := (hT3g k (by omega) (by omega)).2
                  refine X.bipush (by decide +kernel) dX4_speakIn_120 (pc' := 122) rfl ?_
                  refine X.isub dX4_speakIn_122 (pc' := 123) rfl ?_
                  refine X.iadd dX4_speakIn_123 (pc' := 124) rfl ?_
                  refine X.gen (fun x22 hx22 => ?_)
                  refine X.istore (i := 8) (ls' := [some (rf t), some (rf b), some (vi p), some (vi e), some (vi se), none, some (vi u), some (vi w), some (vi x22), some (vi k)]) (hd := dX4_speakIn_124) (by decide) rfl rfl (pc' := 126) rfl ?_
                  refine X.goto (tgt := 152) dX4_speakIn_126 (by decide) ?_
                  refine X.iinc (i := 9) (ls' := [some (rf t), some (rf b), some (vi p), some (vi e), some (vi se), none, some (vi u), some (vi w), some (vi x22), some (vi (k + 1))]) dX4_speakIn_152 rfl (by decide) rfl rfl (pc' := 155) rfl ?_
                  refine X.goto (tgt := 82) dX4_speakIn_155 (by decide) ?_
                  refine ih82 g A1 x22 (k + 1) (by omega) ?_
                  have hkw : k < w := by omega
                  obtain ⟨hsc, hq⟩ := hlo (by omega)
                  have h35 := hno35 k (by omega) hkw
                  have hk59 := pr3 k (by omega) (by omega)
                  have hnk := rn_ok hC (show 0 ≤ k + 1 by omega) (by omega)
                  refine ⟨by omega, by omega, hRg, hpg, hFg, fun _ => ⟨?_, ?_⟩, fun z => by omega⟩
                  · rw [scF_at hk0, hsc, scS_in (by omega)]
                    simp only [Prod.mk.injEq, true_and, and_true]
                    omega
                  · rcases hq with ⟨z1, z2⟩ | ⟨z1, z2⟩ | ⟨z1, z2⟩
                    · have z5 := rn_st (show 0 ≤ k by omega) z1
                      rw [nx_2] at z5
                      omega
                    · have z5 := rn_st (show 0 ≤ k by omega) z1
                      rw [nx_3] at z5
                      omega
                    · have z5 := rn_st (show 0 ≤ k by omega) z1
                      rw [nx_4] at z5
                      omega
        refine L82 _ h A 0 x13 (Nat.lt_succ_self _) ?_
        have e5 : x13 = p + 2 := by omega
        rw [e5]
        refine ⟨by omega, by omega, hR, hpA, Fr.rf, fun _ => ⟨?_, Or.inl ⟨hsd.2.2.2.1, rfl⟩⟩, fun z => by omega⟩
        rw [show p + 2 - (p + 2) = 0 by omega]
        rfl
      refine X.mask (bs := [true, true, true, true, true, false, true, true, false, false]) (ls' := [some (rf t), some (rf b), some (vi p), some (vi e), some (vi se), none, some (vi ((-1))), some (vi e), none, none]) rfl ?_
      refine J74 ((-1)) e ?_
      have hce : ¬ (p < e - 2 ∧ G (e - 2) = 35) := by omega
      have hac := pac.1
      unfold acc at hac
      have hno : ∀ k, p ≤ k → k < e → G k ≠ 35 := fun k z1 z2 z3 => by
        have hh2 := (tx_hash hC hp.1 z1 (by omega) (by omega) z3).1
        have z4 : k = e - 2 := by omega
        rw [z4] at z3
        omega
      refine ⟨by unfold mkOf; rw [if_neg hce], by unfold weOf; rw [if_neg hce], by omega, by omega, ?_, hno⟩
      have hss := say_st hC hp.1 hsd.2.2.2.1 (e - (p + 2)).toNat (by omega) (fun j z1 z2 => ⟨pr3 j z1 (by omega), hno j z1 (by omega)⟩)
      rw [show p + 2 + ((e - (p + 2)).toNat : Int) = e by omega] at hss
      omega
    · refine X.iconst dX4_speakIn_31 (pc' := 32) rfl ?_
      refine X.goto (tgt := 36) dX4_speakIn_32 (by decide) ?_
      refine X.istore (i := 5) (ls' := [some (rf t), some (rf b), some (vi p), some (vi e), some (vi se), some (vi 1), none, none, none, none]) (hd := dX4_speakIn_36) (by decide) rfl rfl (pc' := 38) rfl ?_
      refine X.iload (i := 5) rfl dX4_speakIn_38 (pc' := 40) rfl ?_
      refine X.if_eq (tgt := 57) dX4_speakIn_40 ⟨by omega, by omega⟩ (by decide) (pc' := 43) rfl (fun c40 => by exfalso; omega) (fun c40 => ?_)
      refine X.aload_n (i := 0) rfl rfl dX4_speakIn_43 (pc' := 44) rfl ?_
      refine X.getR fk_X4_9 xcl_4 dX4_speakIn_44 hS.1 hS.2.1 (pc' := 47) rfl ?_
      refine X.iload_n (i := 3) rfl rfl dX4_speakIn_47 (pc' := 48) rfl ?_
      refine X.iconst dX4_speakIn_48 (pc' := 49) rfl ?_
      refine X.isub dX4_speakIn_49 (pc' := 50) rfl ?_
      refine X.cald (x := G (e - 1)) dX4_speakIn_50 hS.2.2 (by omega) (by omega) ⟨by omega, by omega⟩ (mI_at (hT3 (e - 1) (by omega) (by omega)).1 (by omega)) (pc' := 51) rfl (fun r23 => ?_)
      obtain ⟨r23a, r23b⟩ := r23
      have r23c := (hT3 (e - 1) (by omega) (by omega)).2
      refine X.bipush (by decide +kernel) dX4_speakIn_51 (pc' := 53) rfl ?_
      refine X.isub dX4_speakIn_53 (pc' := 54) rfl ?_
      refine X.goto (tgt := 58) dX4_speakIn_54 (by decide) ?_
      refine X.gen (fun x24 hx24 => ?_)
      refine X.istore (i := 6) (ls' := [some (rf t), some (rf b), some (vi p), some (vi e), some (vi se), some (vi 1), some (vi x24), none, none, none]) (hd := dX4_speakIn_58) (by decide) rfl rfl (pc' := 60) rfl ?_
      refine X.iload (i := 5) rfl dX4_speakIn_60 (pc' := 62) rfl ?_
      refine X.if_eq (tgt := 71) dX4_speakIn_62 ⟨by omega, by omega⟩ (by decide) (pc' := 65) rfl (fun c62 => by exfalso; omega) (fun c62 => ?_)
      refine X.iload_n (i := 3) rfl rfl dX4_speakIn_65 (pc' := 66) rfl ?_
      refine X.iconst dX4_speakIn_66 (pc' := 67) rfl ?_
      refine X.isub dX4_speakIn_67 (pc' := 68) rfl ?_
      refine X.goto (tgt := 72) dX4_speakIn_68 (by decide) ?_
      refine X.gen (fun x25 hx25 => ?_)
      refine X.istore (i := 7) (ls' := [some (rf t), some (rf b), some (vi p), some (vi e), some (vi se), some (vi 1), some (vi x24), some (vi x25), none, none]) (hd := dX4_speakIn_72) (by decide) rfl rfl (pc' := 74) rfl ?_
      have J74 : ∀ (u : Int) (w : Int), (u = mkOf G p e ∧ w = weOf G p e ∧ (-1 ≤ u ∧ u ≤ 9) ∧ (p + 3 ≤ w ∧ w ≤ e) ∧ (rn G w = 3 ∨ rn G w = 4) ∧ ∀ k, p ≤ k → k < w → G k ≠ 35) → X Ω RX4 cX4_speakIn 10 (some .boolean) false rm_X4_speakIn PR xNo 0 0 74 [some (rf t), some (rf b), some (vi p), some (vi e), some (vi se), none, some (vi u), some (vi w), none, none] [] h := by
        intro u w hinv
        obtain ⟨hu, hw, hur, hwe, hrw, hno35⟩ := hinv
        refine X.iconst dX4_speakIn_74 (pc' := 75) rfl ?_
        refine X.istore (i := 8) (ls' := [some (rf t), some (rf b), some (vi p), some (vi e), some (vi se), none, some (vi u), some (vi w), some (vi 0), none]) (hd := dX4_speakIn_75) (by decide) rfl rfl (pc' := 77) rfl ?_
        refine X.iload_n (i := 2) rfl rfl dX4_speakIn_77 (pc' := 78) rfl ?_
        refine X.iconst dX4_speakIn_78 (pc' := 79) rfl ?_
        refine X.iadd dX4_speakIn_79 (pc' := 80) rfl ?_
        refine X.gen (fun x26 hx26 => ?_)
        refine X.istore (i := 9) (ls' := [some (rf t), some (rf b), some (vi p), some (vi e), some (vi se), none, some (vi u), some (vi w), some (vi 0), some (vi x26)]) (hd := dX4_speakIn_80) (by decide) rfl rfl (pc' := 82) rfl ?_
        have L82 : ∀ (n82 : Nat) (g : xM) (A1 : aS) (y : Int) (k : Int), (w + 1 - k).toNat < n82 → (p + 2 ≤ k ∧ k ≤ w + 1 ∧ RC g b A1 ∧ aPast A1 ∧ Fr h g b ∧ (k ≤ w → scF G (G p - 48) u (p + 2) A (k - (p + 2)).toNat = (A1, y, 1) ∧ ((rn G k = 2 ∧ y = 0) ∨ (rn G k = 3 ∧ 1 ≤ y ∧ y ≤ 9) ∨ (rn G k = 4 ∧ 10 ≤ y ∧ y ≤ 99))) ∧ (k = w + 1 → scE G (G p - 48) u (p + 2) A w = (A1, 0, 1))) → X Ω RX4 cX4_speakIn 10 (some .boolean) false rm_X4_speakIn PR xNo 0 0 82 [some (rf t), some (rf b), some (vi p), some (vi e), some (vi se), none, some (vi u), some (vi w), some (vi y), some (vi k)] [] g := by
          intro n82
          induction n82 with
          | zero => intro g A1 y k hm _; exfalso; omega
          | succ n82 ih82 =>
            intro g A1 y k hm82 hinv
            obtain ⟨hk0, hkw1, hRg, hpg, hFg, hlo, hhi⟩ := hinv
            have hSg : TxS g t := hS.sam (hFg.sam (by omega)) (hFg.sam (by omega))
            have hT3g := (hT.sam (hFg.sam (by omega)) (hFg.sam (by omega))).2.2
            have okg : aOK A1 := hRg.1.2.1
            have hB1 := okg.1
            have hW1 := okg.2.1
            have hnB1 : mI g b 0 = aB A1 := hRg.1.2.2.1
            have hnW1 : mI g b 1 = aW A1 := hRg.1.2.2.2.1
            have hyr : 0 ≤ y ∧ y ≤ 99 ∨ k = w + 1 := by
              by_cases z : k ≤ w
              · have := (hlo z).2; omega
              · omega
            refine X.iload (i := 9) rfl dX4_speakIn_82 (pc' := 84) rfl ?_
            refine X.iload (i := 7) rfl dX4_speakIn_84 (pc' := 86) rfl ?_
            refine X.icmp_gt (tgt := 158) dX4_speakIn_86 ⟨by omega, by omega⟩ ⟨by omega, by omega⟩ (by decide) (pc' := 89) rfl (fun c86 => ?_) (fun c86 => ?_)
            · refine X.iconst dX4_speakIn_158 (pc' := 159) rfl ?_
              refine X.iret dX4_speakIn_159 (Or.inr ⟨rfl, by omega⟩) (Nat.le_of_ble_eq_true rfl) (Nat.le_of_ble_eq_true rfl) ?_
              subst hPR
              have hen := hhi (by omega)
              rw [← hu, ← hw, hen]
              exact ⟨hFg, _, rfl, rfl, hRg, hpg⟩
            · refine X.iload (i := 9) rfl dX4_speakIn_89 (pc' := 91) rfl ?_
              refine X.iload (i := 7) rfl dX4_speakIn_91 (pc' := 93) rfl ?_
              refine X.icmp_ge (tgt := 129) dX4_speakIn_93 ⟨by omega, by omega⟩ ⟨by omega, by omega⟩ (by decide) (pc' := 96) rfl (fun c93 => ?_) (fun c93 => ?_)
              · refine X.aload_n (i := 1) rfl rfl dX4_speakIn_129 (pc' := 130) rfl ?_
                refine X.callV (ci := 0) (a := b) (rm := rm_X0_canSpeak) (As := []) (st := []) dX4_speakIn_130 ck_X4_61 rfl (by decide) hRg.1.1.1 rfl rfl ⟨Nat.le_of_ble_eq_true rfl, Nat.le_of_ble_eq_true rfl⟩ (Nat.le_of_ble_eq_true rfl) (Nat.le_of_ble_eq_true rfl) (Nat.le_of_ble_eq_true rfl) (pc' := 133) rfl (k_X0_canSpeak hRg.1.1) (fun q27 hq27 eq27 => ?_) (fun _ _ x1 => x1.elim)
                obtain ⟨rfl, r28, rfl, hr28⟩ := eq27
                refine X.if_ne (tgt := 138) dX4_speakIn_133 ⟨by omega, by omega⟩ (by decide) (pc' := 136) rfl (fun c133 => ?_) (fun c133 => ?_)
                · have hq := (hlo (by omega)).2
                  have hyw : 1 ≤ y ∧ y ≤ 99 := by
                    by_cases z : k = w
                    · rw [← z] at hrw; omega
                    · rcases hq with ⟨z1, z2⟩ | ⟨z1, z2⟩ | ⟨z1, z2⟩
                      · exfalso
                        have z5 := rn_st (show 0 ≤ k by omega) z1
                        have hnk := rn_ok hC (show 0 ≤ k + 1 by omega) (by omega)
                        rw [nx_2] at z5
                        omega
                      · omega
                      · omega
                  have hok1 := aAdd_ok (s := G p - 48) (w := y) (m := u) okg hpg (by omega) ⟨by omega, by omega⟩ ⟨by omega, by omega⟩ ⟨by omega, by omega⟩
                  refine X.aload_n (i := 1) rfl rfl dX4_speakIn_138 (pc' := 139) rfl ?_
                  refine X.iload (i := 4) rfl dX4_speakIn_139 (pc' := 141) rfl ?_
                  refine X.iload (i := 8) rfl dX4_speakIn_141 (pc' := 143) rfl ?_
                  refine X.iload (i := 6) rfl dX4_speakIn_143 (pc' := 145) rfl ?_
                  refine X.callV (ci := 0) (a := b) (rm := rm_X0_speak) (As := [vi se, vi y, vi u]) (st := []) dX4_speakIn_145 ck_X4_65 rfl (by decide) hRg.1.1.1 rfl rfl ⟨Nat.le_of_ble_eq_true rfl, Nat.le_of_ble_eq_true rfl⟩ (Nat.le_of_ble_eq_true rfl) (Nat.le_of_ble_eq_true rfl) (Nat.le_of_ble_eq_true rfl) (pc' := 148) rfl (k_X0_speak hRg hpg (by omega) (by omega) ⟨by omega, by omega⟩ ⟨by omega, by omega⟩ ⟨by omega, by omega⟩) (fun q29 hq29 eq29 => ?_) (fun _ _ x1 => x1.elim)
                  obtain ⟨rfl, hRE, hFE⟩ := eq29
                  rw [hse] at hRE
                  refine X.pop rfl dX4_speakIn_148 (pc' := 149) rfl ?_
                  refine X.iconst dX4_speakIn_149 (pc' := 150) rfl ?_
                  refine X.istore (i := 8) (ls' := [some (rf t), some (rf b), some (vi p), some (vi e), some (vi se), none, some (vi u), some (vi w), some (vi 0), some (vi k)]) (hd := dX4_speakIn_150) (by decide) rfl rfl (pc' := 152) rfl ?_
                  refine X.iinc (i := 9) (ls' := [some (rf t), some (rf b), some (vi p), some (vi e), some (vi se), none, some (vi u), some (vi w), some (vi 0), some (vi (k + 1))]) dX4_speakIn_152 rfl (by decide) rfl rfl (pc' := 155) rfl ?_
                  refine X.goto (tgt := 82) dX4_speakIn_155 (by decide) ?_
                  refine ih82 hq29 (aEnd (aAdd A1 (G p - 48) y u)) 0 (k + 1) (by omega) ?_
                  obtain ⟨hsc, hq⟩ := hlo (by omega)
                  have hsp : spk (G p - 48) u (A1, y, 1) = (aEnd (aAdd A1 (G p - 48) y u), 0, 1) := by
                    unfold spk
                    rw [if_pos ⟨rfl, (show aW A1 < 200 by omega), (show aB A1 < 400 by omega)⟩]
                  have ek : k = w := by omega
                  refine ⟨by omega, by omega, hRE, aEnd_past hok1, hFg.tr hFE, fun z => by omega, fun _ => ?_⟩
                  unfold scE
                  rw [← ek, hsc, hsp]
                · refine X.iconst dX4_speakIn_136 (pc' := 137) rfl ?_
                  refine X.iret dX4_speakIn_137 (Or.inr ⟨rfl, by omega⟩) (Nat.le_of_ble_eq_true rfl) (Nat.le_of_ble_eq_true rfl) ?_
                  subst hPR
                  have hde := scE_dead (G := G) (s := G p - 48) (u := u) (A := A) hk0 (show k ≤ w by omega) (hlo (by omega)).1 (by omega) (by omega)
                  rw [← hu, ← hw, hde.1, hde.2]
                  exact ⟨hFg, _, rfl, rfl, hRg, hpg⟩
              · refine X.aload_n (i := 0) rfl rfl dX4_speakIn_96 (pc' := 97) rfl ?_
                refine X.getR fk_X4_9 xcl_4 dX4_speakIn_97 hSg.1 hSg.2.1 (pc' := 100) rfl ?_
                refine X.iload (i := 9) rfl dX4_speakIn_100 (pc' := 102) rfl ?_
                refine X.cald (x := G k) dX4_speakIn_102 hSg.2.2 (by omega) (by omega) ⟨by omega, by omega⟩ (mI_at (hT3g k (by omega) (by omega)).1 (by omega)) (pc' := 103) rfl (fun r30 => ?_)
                obtain ⟨r30a, r30b⟩ := r30
                have r30c := (hT3g k (by omega) (by omega)).2
                refine X.bipush (by decide +kernel) dX4_speakIn_103 (pc' := 105) rfl ?_
                refine X.icmp_eq (tgt := 129) dX4_speakIn_105 ⟨by omega, by omega⟩ ⟨by omega, by omega⟩ (by decide) (pc' := 108) rfl (fun c105 => ?_) (fun c105 => ?_)
                · refine X.aload_n (i := 1) rfl rfl dX4_speakIn_129 (pc' := 130) rfl ?_
                  refine X.callV (ci := 0) (a := b) (rm := rm_X0_canSpeak) (As := []) (st := []) dX4_speakIn_130 ck_X4_61 rfl (by decide) hRg.1.1.1 rfl rfl ⟨Nat.le_of_ble_eq_true rfl, Nat.le_of_ble_eq_true rfl⟩ (Nat.le_of_ble_eq_true rfl) (Nat.le_of_ble_eq_true rfl) (Nat.le_of_ble_eq_true rfl) (pc' := 133) rfl (k_X0_canSpeak hRg.1.1) (fun q31 hq31 eq31 => ?_) (fun _ _ x1 => x1.elim)
                  obtain ⟨rfl, r32, rfl, hr32⟩ := eq31
                  refine X.if_ne (tgt := 138) dX4_speakIn_133 ⟨by omega, by omega⟩ (by decide) (pc' := 136) rfl (fun c133 => ?_) (fun c133 => ?_)
                  · have hq := (hlo (by omega)).2
                    have hyw : 1 ≤ y ∧ y ≤ 99 := by
                      by_cases z : k = w
                      · rw [← z] at hrw; omega
                      · rcases hq with ⟨z1, z2⟩ | ⟨z1, z2⟩ | ⟨z1, z2⟩
                        · exfalso
                          have z5 := rn_st (show 0 ≤ k by omega) z1
                          have hnk := rn_ok hC (show 0 ≤ k + 1 by omega) (by omega)
                          rw [nx_2] at z5
                          omega
                        · omega
                        · omega
                    have hok1 := aAdd_ok (s := G p - 48) (w := y) (m := u) okg hpg (by omega) ⟨by omega, by omega⟩ ⟨by omega, by omega⟩ ⟨by omega, by omega⟩
                    refine X.aload_n (i := 1) rfl rfl dX4_speakIn_138 (pc' := 139) rfl ?_
                    refine X.iload (i := 4) rfl dX4_speakIn_139 (pc' := 141) rfl ?_
                    refine X.iload (i := 8) rfl dX4_speakIn_141 (pc' := 143) rfl ?_
                    refine X.iload (i := 6) rfl dX4_speakIn_143 (pc' := 145) rfl ?_
                    refine X.callV (ci := 0) (a := b) (rm := rm_X0_speak) (As := [vi se, vi y, vi u]) (st := []) dX4_speakIn_145 ck_X4_65 rfl (by decide) hRg.1.1.1 rfl rfl ⟨Nat.le_of_ble_eq_true rfl, Nat.le_of_ble_eq_true rfl⟩ (Nat.le_of_ble_eq_true rfl) (Nat.le_of_ble_eq_true rfl) (Nat.le_of_ble_eq_true rfl) (pc' := 148) rfl (k_X0_speak hRg hpg (by omega) (by omega) ⟨by omega, by omega⟩ ⟨by omega, by omega⟩ ⟨by omega, by omega⟩) (fun q33 hq33 eq33 => ?_) (fun _ _ x1 => x1.elim)
                    obtain ⟨rfl, hRE, hFE⟩ := eq33
                    rw [hse] at hRE
                    refine X.pop rfl dX4_speakIn_148 (pc' := 149) rfl ?_
                    refine X.iconst dX4_speakIn_149 (pc' := 150) rfl ?_
                    refine X.istore (i := 8) (ls' := [some (rf t), some (rf b), some (vi p), some (vi e), some (vi se), none, some (vi u), some (vi w), some (vi 0), some (vi k)]) (hd := dX4_speakIn_150) (by decide) rfl rfl (pc' := 152) rfl ?_
                    refine X.iinc (i := 9) (ls' := [some (rf t), some (rf b), some (vi p), some (vi e), some (vi se), none, some (vi u), some (vi w), some (vi 0), some (vi (k + 1))]) dX4_speakIn_152 rfl (by decide) rfl rfl (pc' := 155) rfl ?_
                    refine X.goto (tgt := 82) dX4_speakIn_155 (by decide) ?_
                    refine ih82 hq33 (aEnd (aAdd A1 (G p - 48) y u)) 0 (k + 1) (by omega) ?_
                    obtain ⟨hsc, hq⟩ := hlo (by omega)
                    have hsp : spk (G p - 48) u (A1, y, 1) = (aEnd (aAdd A1 (G p - 48) y u), 0, 1) := by
                      unfold spk
                      rw [if_pos ⟨rfl, (show aW A1 < 200 by omega), (show aB A1 < 400 by omega)⟩]
                    have hnk := rn_ok hC (show 0 ≤ k + 1 by omega) (by omega)
                    refine ⟨by omega, by omega, hRE, aEnd_past hok1, hFg.tr hFE, fun _ => ⟨?_, Or.inl ⟨?_, rfl⟩⟩, fun z => by omega⟩
                    · rw [scF_at hk0, hsc, scS_44 (by omega), hsp]
                    · rcases hq with ⟨z1, z2⟩ | ⟨z1, z2⟩ | ⟨z1, z2⟩
                      · have z5 := rn_st (show 0 ≤ k by omega) z1
                        rw [nx_2] at z5
                        omega
                      · have z5 := rn_st (show 0 ≤ k by omega) z1
                        rw [nx_3] at z5
                        omega
                      · have z5 := rn_st (show 0 ≤ k by omega) z1
                        rw [nx_4] at z5
                        omega
                  · refine X.iconst dX4_speakIn_136 (pc' := 137) rfl ?_
                    refine X.iret dX4_speakIn_137 (Or.inr ⟨rfl, by omega⟩) (Nat.le_of_ble_eq_true rfl) (Nat.le_of_ble_eq_true rfl) ?_
                    subst hPR
                    have hde := scE_dead (G := G) (s := G p - 48) (u := u) (A := A) hk0 (show k ≤ w by omega) (hlo (by omega)).1 (by omega) (by omega)
                    rw [← hu, ← hw, hde.1, hde.2]
                    exact ⟨hFg, _, rfl, rfl, hRg, hpg⟩
                · refine X.iload (i := 8) rfl dX4_speakIn_108 (pc' := 110) rfl ?_
                  refine X.bipush (by decide +kernel) dX4_speakIn_110 (pc' := 112) rfl ?_
                  refine X.imul dX4_speakIn_112 (pc' := 113) rfl ?_
                  refine X.aload_n (i := 0) rfl rfl dX4_speakIn_113 (pc' := 114) rfl ?_
                  refine X.getR fk_X4_9 xcl_4 dX4_speakIn_114 hSg.1 hSg.2.1 (pc' := 117) rfl ?_
                  refine X.iload (i := 9) rfl dX4_speakIn_117 (pc' := 119) rfl ?_
                  refine X.cald (x := G k) dX4_speakIn_119 hSg.2.2 (by omega) (by omega) ⟨by omega, by omega⟩ (mI_at (hT3g k (by omega) (by omega)).1 (by omega)) (pc' := 120) rfl (fun r34 => ?_)
                  obtain ⟨r34a, r34b⟩ := r34
                  have r34c := (hT3g k (by omega) (by omega)).2
                  refine X.bipush (by decide +kernel) dX4_speakIn_120 (pc' := 122) rfl ?_
                  refine X.isub dX4_speakIn_122 (pc' := 123) rfl ?_
                  refine X.iadd dX4_speakIn_123 (pc' := 124) rfl ?_
                  refine X.gen (fun x35 hx35 => ?_)
                  refine X.istore (i := 8) (ls' := [some (rf t), some (rf b), some (vi p), some (vi e), some (vi se), none, some (vi u), some (vi w), some (vi x35), some (vi k)]) (hd := dX4_speakIn_124) (by decide) rfl rfl (pc' := 126) rfl ?_
                  refine X.goto (tgt := 152) dX4_speakIn_126 (by decide) ?_
                  refine X.iinc (i := 9) (ls' := [some (rf t), some (rf b), some (vi p), some (vi e), some (vi se), none, some (vi u), some (vi w), some (vi x35), some (vi (k + 1))]) dX4_speakIn_152 rfl (by decide) rfl rfl (pc' := 155) rfl ?_
                  refine X.goto (tgt := 82) dX4_speakIn_155 (by decide) ?_
                  refine ih82 g A1 x35 (k + 1) (by omega) ?_
                  have hkw : k < w := by omega
                  obtain ⟨hsc, hq⟩ := hlo (by omega)
                  have h35 := hno35 k (by omega) hkw
                  have hk59 := pr3 k (by omega) (by omega)
                  have hnk := rn_ok hC (show 0 ≤ k + 1 by omega) (by omega)
                  refine ⟨by omega, by omega, hRg, hpg, hFg, fun _ => ⟨?_, ?_⟩, fun z => by omega⟩
                  · rw [scF_at hk0, hsc, scS_in (by omega)]
                    simp only [Prod.mk.injEq, true_and, and_true]
                    omega
                  · rcases hq with ⟨z1, z2⟩ | ⟨z1, z2⟩ | ⟨z1, z2⟩
                    · have z5 := rn_st (show 0 ≤ k by omega) z1
                      rw [nx_2] at z5
                      omega
                    · have z5 := rn_st (show 0 ≤ k by omega) z1
                      rw [nx_3] at z5
                      omega
                    · have z5 := rn_st (show 0 ≤ k by omega) z1
                      rw [nx_4] at z5
                      omega
        refine L82 _ h A 0 x26 (Nat.lt_succ_self _) ?_
        have e5 : x26 = p + 2 := by omega
        rw [e5]
        refine ⟨by omega, by omega, hR, hpA, Fr.rf, fun _ => ⟨?_, Or.inl ⟨hsd.2.2.2.1, rfl⟩⟩, fun z => by omega⟩
        rw [show p + 2 - (p + 2) = 0 by omega]
        rfl
      refine X.mask (bs := [true, true, true, true, true, false, true, true, false, false]) (ls' := [some (rf t), some (rf b), some (vi p), some (vi e), some (vi se), none, some (vi x24), some (vi x25), none, none]) rfl ?_
      refine J74 x24 x25 ?_
      have h35 : G (e - 2) = 35 := by omega
      have hh := tx_hash hC hp.1 (show p ≤ e - 2 by omega) (by omega) (by omega) h35
      rw [show e - 2 + 1 = e - 1 by omega] at hh
      have hce : p < e - 2 ∧ G (e - 2) = 35 := ⟨by omega, h35⟩
      refine ⟨by unfold mkOf; rw [if_pos hce]; omega, by unfold weOf; rw [if_pos hce]; omega, by omega, ⟨?_, by omega⟩, ?_, fun k z1 z2 z3 => ?_⟩
      · by_cases e9 : e = p + 3
        · have z : G (p + 1) = 35 := by rw [show p + 1 = e - 2 by omega]; exact h35
          omega
        · by_cases e8 : e = p + 4
          · have z : G (p + 2) = 35 := by rw [show p + 2 = e - 2 by omega]; exact h35
            omega
          · omega
      · rw [show x25 = e - 2 by omega]; exact hh.2.1
      · have hh2 := (tx_hash hC hp.1 z1 (by omega) (by omega) z3).1
        omega
