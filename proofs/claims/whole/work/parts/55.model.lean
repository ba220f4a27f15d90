theorem fhF_dn {g : Int → Int} {n b B : Int} (h : b < B) : fhF g n b (B - b).toNat = if g b = n then b else fhF g n (b + 1) (B - (b + 1)).toNat := by
  rw [show (B - b).toNat = (B - (b + 1)).toNat + 1 by omega]
  rfl
theorem x_or0 {x : Int} : Int32.ofInt x ||| Int32.ofInt 0 = Int32.ofInt x := by
  have : Int32.ofInt 0 = 0 := rfl
  rw [this]
  simp
