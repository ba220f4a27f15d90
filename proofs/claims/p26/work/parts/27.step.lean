/-! ===== a step more ===== -/
theorem cnt_in {P : Int → Prop} {d : ∀ k, Decidable (P k)} {c k : Int} (h : c = cnt P d k.toNat) (h0 : 0 ≤ k) (hp : P k) : c + 1 = cnt P d (k + 1).toNat := by rw [cnt_at h0, if_pos hp, h]
theorem cnt_out {P : Int → Prop} {d : ∀ k, Decidable (P k)} {c k : Int} (h : c = cnt P d k.toNat) (h0 : 0 ≤ k) (hp : ¬ P k) : c = cnt P d (k + 1).toNat := by rw [cnt_at h0, if_neg hp, h]; omega
theorem mkF_in {P : Int → Prop} {d : ∀ k, Decidable (P k)} {c k : Int} (h : c = mkF P d k.toNat) (h0 : 0 ≤ k) (hp : P k) : c + 2 ^ k.toNat = mkF P d (k + 1).toNat := by
  rw [show (k + 1).toNat = k.toNat + 1 by omega, mkF_add, show ((k.toNat : Nat) : Int) = k by omega, if_pos hp, h]
theorem mkF_out {P : Int → Prop} {d : ∀ k, Decidable (P k)} {c k : Int} (h : c = mkF P d k.toNat) (h0 : 0 ≤ k) (hp : ¬ P k) : c = mkF P d (k + 1).toNat := by
  rw [show (k + 1).toNat = k.toNat + 1 by omega, mkF_add, show ((k.toNat : Nat) : Int) = k by omega, if_neg hp, h]; omega
theorem gpF_no {g : Int → Int} {k : Int} (h0 : 0 ≤ k) (h : g k = -1) : (gpF g (k + 1).toNat).1 = (gpF g k.toNat).1 ∧ (gpF g (k + 1).toNat).2.1 = (gpF g k.toNat).2.1 ∧ (gpF g (k + 1).toNat).2.2 = 1 := by
  have e : ((k.toNat : Nat) : Int) = k := by omega
  rw [show (k + 1).toNat = k.toNat + 1 by omega, show gpF g (k.toNat + 1) = if g (k.toNat : Nat) = -1 then ((gpF g k.toNat).1, (gpF g k.toNat).2.1, 1) else ((gpF g k.toNat).1 + (if (gpF g k.toNat).2.1 = 1 ∧ (gpF g k.toNat).2.2 = 1 then 1 else 0), 1, 0) from rfl, e, if_pos h]
  exact ⟨rfl, rfl, rfl⟩
theorem gpF_in {g : Int → Int} {k : Int} (h0 : 0 ≤ k) (h : g k ≠ -1) : (gpF g (k + 1).toNat).1 = (gpF g k.toNat).1 + (if (gpF g k.toNat).2.1 = 1 ∧ (gpF g k.toNat).2.2 = 1 then 1 else 0) ∧ (gpF g (k + 1).toNat).2.1 = 1 ∧ (gpF g (k + 1).toNat).2.2 = 0 := by
  have e : ((k.toNat : Nat) : Int) = k := by omega
  rw [show (k + 1).toNat = k.toNat + 1 by omega]
  show ((gpF g (k.toNat + 1)).1 = _) ∧ _
  rw [show gpF g (k.toNat + 1) = if g (k.toNat : Nat) = -1 then ((gpF g k.toNat).1, (gpF g k.toNat).2.1, 1) else ((gpF g k.toNat).1 + (if (gpF g k.toNat).2.1 = 1 ∧ (gpF g k.toNat).2.2 = 1 then 1 else 0), 1, 0) from rfl, e, if_neg h]
  exact ⟨rfl, rfl, rfl⟩
theorem hwF_in {A : aS} {f m s k : Int} (h0 : 0 ≤ k) (h : aSe A k = f ∧ aMa A k = m) : (hwF A f m s (k + 1).toNat).1 = (hwF A f m s k.toNat).1 + 1 ∧ (hwF A f m s (k + 1).toNat).2.1 = (hwF A f m s k.toNat).2.1 + (if 0 ≤ fh A s k then 1 else 0) ∧ (hwF A f m s (k + 1).toNat).2.2.1 = (if fh A s k > (hwF A f m s k.toNat).2.2.1 then fh A s k else (hwF A f m s k.toNat).2.2.1) ∧ (hwF A f m s (k + 1).toNat).2.2.2 = (if (hwF A f m s k.toNat).2.2.2 = 1 ∧ fh A s k > (hwF A f m s k.toNat).2.2.1 then 1 else 0) := by
  have e : ((k.toNat : Nat) : Int) = k := by omega
  rw [show (k + 1).toNat = k.toNat + 1 by omega, show hwF A f m s (k.toNat + 1) = hwS A f m s (k.toNat : Nat) (hwF A f m s k.toNat) from rfl, e]
  unfold hwS
  rw [if_pos h]
  exact ⟨rfl, rfl, rfl, rfl⟩
theorem hwF_out {A : aS} {f m s k : Int} (h0 : 0 ≤ k) (h : ¬ (aSe A k = f ∧ aMa A k = m)) : hwF A f m s (k + 1).toNat = hwF A f m s k.toNat := by
  have e : ((k.toNat : Nat) : Int) = k := by omega
  rw [show (k + 1).toNat = k.toNat + 1 by omega, show hwF A f m s (k.toNat + 1) = hwS A f m s (k.toNat : Nat) (hwF A f m s k.toNat) from rfl, e]
  unfold hwS
  rw [if_neg h]
theorem fhF_step {g : Int → Int} {n t : Int} (h : t ≤ 60) : fhF g n t (61 - t).toNat = if g t = n then t else fhF g n (t + 1) (61 - (t + 1)).toNat := by
  rw [show (61 - t).toNat = (61 - (t + 1)).toNat + 1 by omega]
  rfl
theorem bsR_no {A : aS} {x k : Int} (h0 : 0 ≤ k) (h : dly A x k = -1) : bsR A x (k + 1).toNat = bsR A x k.toNat := by
  have e : ((k.toNat : Nat) : Int) = k := by omega
  rw [show (k + 1).toNat = k.toNat + 1 by omega]
  show (if dly A x (k.toNat : Nat) = -1 then _ else _) = _
  rw [e, if_pos h]
theorem bsR_in {A : aS} {x k : Int} (h0 : 0 ≤ k) (h : dly A x k ≠ -1) : (bsR A x (k + 1).toNat).1 = (bsR A x k.toNat).1 + 1 ∧ (bsR A x (k + 1).toNat).2 = if (bsR A x k.toNat).2 < dly A x k then dly A x k else (bsR A x k.toNat).2 := by
  have e : ((k.toNat : Nat) : Int) = k := by omega
  rw [show (k + 1).toNat = k.toNat + 1 by omega, show bsR A x (k.toNat + 1) = if dly A x (k.toNat : Nat) = -1 then bsR A x k.toNat else ((bsR A x k.toNat).1 + 1, if (bsR A x k.toNat).2 < dly A x (k.toNat : Nat) then dly A x (k.toNat : Nat) else (bsR A x k.toNat).2) from rfl, e, if_neg h]
  exact ⟨rfl, rfl⟩
theorem bsF_at {A : aS} {k : Int} (h0 : 0 ≤ k) : bsF A (k + 1).toNat = if (bsR A k 6).1 > (bsF A k.toNat).2.1 ∨ ((bsR A k 6).1 = (bsF A k.toNat).2.1 ∧ (bsR A k 6).2 < (bsF A k.toNat).2.2) then (k, (bsR A k 6).1, (bsR A k 6).2) else bsF A k.toNat := by
  have e : ((k.toNat : Nat) : Int) = k := by omega
  rw [show (k + 1).toNat = k.toNat + 1 by omega, show bsF A (k.toNat + 1) = if (bsR A (k.toNat : Nat) 6).1 > (bsF A k.toNat).2.1 ∨ ((bsR A (k.toNat : Nat) 6).1 = (bsF A k.toNat).2.1 ∧ (bsR A (k.toNat : Nat) 6).2 < (bsF A k.toNat).2.2) then (((k.toNat : Nat) : Int), (bsR A (k.toNat : Nat) 6).1, (bsR A (k.toNat : Nat) 6).2) else bsF A k.toNat from rfl, e]
theorem bsR_sum {A : aS} (hA : aOK A) {x : Int} (hx : 0 ≤ x ∧ x < 6) : (0 ≤ (bsR A x 6).1 ∧ (bsR A x 6).1 ≤ 6) ∧ (0 ≤ (bsR A x 6).2 ∧ (bsR A x 6).2 ≤ 19) ∧ ((bsR A x 6).1 = 0 → (bsR A x 6).2 = 0) := bsR_rng hA hx 6 (by omega)
theorem hBt_rng {A : aS} (hA : aOK A) (s : Int) : 0 ≤ hBt A s ∧ hBt A s ≤ aB A := by
  have h1 := hA.1
  have := cnt_rng (fun k => aHe A s k ≠ -1) (fun _ => inferInstance) (aB A).toNat
  unfold hBt
  omega
