def smF (g : Int → Int) : Nat → Int
  | 0 => 0
  | n + 1 => smF g n + g n
theorem smF_at {g : Int → Int} {k : Int} (h0 : 0 ≤ k) : smF g (k + 1).toNat = smF g k.toNat + g k := by
  have e : ((k.toNat : Nat) : Int) = k := by omega
  rw [show (k + 1).toNat = k.toNat + 1 by omega, show smF g (k.toNat + 1) = smF g k.toNat + g (k.toNat : Nat) from rfl, e]
theorem smF_sh (A : aS) : smF (hBt A) 6 = shN A := by
  show 0 + hBt A 0 + hBt A 1 + hBt A 2 + hBt A 3 + hBt A 4 + hBt A 5 = hBt A 0 + hBt A 1 + hBt A 2 + hBt A 3 + hBt A 4 + hBt A 5
  omega
theorem smF_rng {g : Int → Int} {B : Int} (hg : ∀ k, 0 ≤ g k ∧ g k ≤ B) : ∀ n : Nat, 0 ≤ smF g n ∧ smF g n ≤ n * B
  | 0 => ⟨Int.le_refl _, by show (0 : Int) ≤ ((0 : Nat) : Int) * B; simp⟩
  | n + 1 => by
    have h1 := smF_rng hg n
    have h2 := hg n
    have h3 : ((n + 1 : Nat) : Int) * B = n * B + B := by
      rw [Int.natCast_add, Int.add_mul]
      simp
    show 0 ≤ smF g n + g n ∧ smF g n + g n ≤ _
    rw [h3]
    omega
theorem shN_rng {A : aS} (hA : aOK A) : 0 ≤ shN A ∧ shN A ≤ 6 * aB A := by
  have h0 := hBt_rng hA 0
  have h1 := hBt_rng hA 1
  have h2 := hBt_rng hA 2
  have h3 := hBt_rng hA 3
  have h4 := hBt_rng hA 4
  have h5 := hBt_rng hA 5
  unfold shN
  omega
