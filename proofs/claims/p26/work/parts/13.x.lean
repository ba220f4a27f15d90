/-! ===== X: copies, statics, calls, ends ===== -/
section XR4
variable {Ω : xO} {own : String} {cc : ByteArray} {nL : Nat} {ret : Option FieldType} {ini : Bool} {R : Room} {PR : Option xV → xM → Prop} {PX : String → xM → Prop} {kc ks pc pc' : Nat} {ls : List (Option xV)} {st : List xV} {h : xM}
theorem x_cats (st : List xV) : ((st.map xc).map fun v => v.category).sum = (st.map xcat).sum := by
  rw [List.map_map]
  congr 1
  apply List.map_congr_left
  intro v _
  exact xc_cat v
theorem X.copy {index a0 a n0 n1 : Nat} {sp dp n : Int} (hd : decode cc pc = .ok (.invokestatic index, 3)) (w1 : Cond.methodLink own index arraycopyName ∈ WG) (w2 : Cond.native arraycopyName ∈ WG) (w3 : Cond.static arraycopyName ∈ WG) (w4 : Cond.initialized "java/lang/System" ∈ WG)
    (ha0 : mT h a0 = some (10, n0)) (ha : mT h a = some (10, n1)) (hsp : 0 ≤ sp) (hdp : 0 ≤ dp) (hn : 0 ≤ n) (h4 : sp + n ≤ n0) (h5 : dp + n ≤ n1) (hn0 : n0 < 1000000000) (hn1 : n1 < 1000000000) (hst : st = []) (hR : 1 ≤ R.frames ∧ 50 ≤ R.locals) (hp : pc + 3 = pc') (kk : X Ω own cc nL ret ini R PR PX kc ks pc' ls st (cI h a0 sp a dp n)) : X Ω own cc nL ret ini R PR PX kc ks pc ls (vi n :: vi dp :: rf a :: vi sp :: rf a0 :: st) h := by
  intro p e s m args below meth c H locs lr cx wd hS r hl
  obtain ⟨hx, hb, hr, hml, hown, hlocks, hts, hin, hexc⟩ := id cx
  subst hp
  subst hst
  have i1 : inR sp := ⟨by omega, by omega⟩
  have i2 : inR dp := ⟨by omega, by omega⟩
  have i3 : inR n := ⟨by omega, by omega⟩
  have nn : ∀ {z : Int}, inR z → 0 ≤ z → ¬ Int32.ofInt z < 0 := fun {z} iz hz => by
    rw [show (0 : Int32) = Int32.ofInt 0 from rfl, x_lt iz inR_0]
    omega
  have hc0 := (r.2.2 a0 10 n0 ha0).2
  have hc1' := (r.2.2 a 10 n1 ha)
  have hc1 := hc1'.2
  rw [xE_10] at hc0 hc1
  have hc0 : H[a0]? = some (vp_cell (Ω.2.2.1 0) (n0, .inl (fun j => Int32.ofInt (mI h a0 j)))) := hc0
  have hc1 : H[a]? = some (vp_cell (Ω.2.2.1 0) (n1, .inl (fun j => Int32.ofInt (mI h a j)))) := hc1
  obtain ⟨-, k0, hk0, cm0, hkk0⟩ := xArr wd (k := 0) rfl n0 (fun j => .int (Int32.ofInt (mI h a0 j)))
  obtain ⟨-, k1, hk1, cm1, hkk1⟩ := xArr wd (k := 0) rfl n1 (fun j => .int (Int32.ofInt (mI h a j)))
  have hc3 : ∀ {z : Int}, inR z → 0 ≤ z → ((Int32.ofInt z).toNatClampNeg : Int) = z := fun {z} iz hz => by rw [x_nat iz]; omega
  intro T hT Xs
  obtain ⟨vm', X', step⟩ := Xs.arraycopy hx hown (hts _ w1) (hts _ w2) (hts _ w3) (hts _ w4) (src := a0) (dst := a) (cs := vp_cell (Ω.2.2.1 0) (n0, .inl (fun j => Int32.ofInt (mI h a0 j)))) (cd := vp_cell (Ω.2.2.1 0) (n1, .inl (fun j => Int32.ofInt (mI h a j)))) (srcPos := Int32.ofInt sp) (destPos := Int32.ofInt dp) (n := Int32.ofInt n) (by rw [hT]; exact hc0) (by rw [hT]; exact hc1)
    (fun _ h => by cases h) (fun _ h => by cases h) (fun h => by cases h) (fun h => by cases h) hk0 hk1 hkk0 hkk1 (by simp [refKind]) (nn i1 hsp) (nn i2 hdp) (nn i3 hn)
    (by rw [inR_ofInt i1, inR_ofInt i3]; show ¬ _ > ((arrV (Ω.2.2.1 0) n0 (fun j => .int (Int32.ofInt (mI h a0 j)))).slots.size : Int); rw [arrV_size]; omega)
    (by rw [inR_ofInt i2, inR_ofInt i3]; show ¬ _ > ((arrV (Ω.2.2.1 0) n1 (fun j => .int (Int32.ofInt (mI h a j)))).slots.size : Int); rw [arrV_size]; omega)
    (fun vm₁ _ i hi => by
      have hlt : (Int32.ofInt sp).toNatClampNeg + i < n0 := by
        have q1 := hc3 i1 hsp
        have q2 := hc3 i3 hn
        omega
      have e : (vp_cell (Ω.2.2.1 0) (n0, .inl (fun j => Int32.ofInt (mI h a0 j)))).slots.getD ((Int32.ofInt sp).toNatClampNeg + i) .null = .int (Int32.ofInt (mI h a0 ((Int32.ofInt sp).toNatClampNeg + i : Nat))) := by
        show (arrV (Ω.2.2.1 0) n0 (fun j => .int (Int32.ofInt (mI h a0 j)))).slots.getD _ _ = _
        rw [Array.getD_eq_getD_getElem?, arrV_read _ _ hlt]
        rfl
      refine ⟨?_, ?_⟩
      · rw [e]
        rfl
      · rw [e]
        exact trivial)
    (g := F0 m pc lr (.int (Int32.ofInt n) :: .int (Int32.ofInt dp) :: .ref a :: .int (Int32.ofInt sp) :: .ref a0 :: [])) rfl (by rw [hml]; exact hl.1) (rest := []) rfl (by rw [hb]; exact hd) hR.1 (by
      have : nativeFrameWords "java/lang/System" "arraycopy" 5 + 11 ≤ 50 := by decide +kernel
      show 2 * 0 + 0 + _ ≤ _
      omega)
  have e1 : copied (vp_cell (Ω.2.2.1 0) (n0, .inl (fun j => Int32.ofInt (mI h a0 j)))) (vp_cell (Ω.2.2.1 0) (n1, .inl (fun j => Int32.ofInt (mI h a j)))) (Int32.ofInt sp) (Int32.ofInt dp) (Int32.ofInt n) = vp_cell (Ω.2.2.1 0) (n1, .inl (va_cpy (fun j => Int32.ofInt (mI h a0 j)) (fun j => Int32.ofInt (mI h a j)) (Int32.ofInt sp).toNatClampNeg (Int32.ofInt dp).toNatClampNeg (Int32.ofInt n).toNatClampNeg)) :=
    va_copied (fun z => .int z) (Ω.2.2.1 0) (Ω.2.2.1 0) (fun j : Nat => Int32.ofInt (mI h a0 j)) (fun j : Nat => Int32.ofInt (mI h a j)) (by
      have q1 := hc3 i1 hsp
      have q2 := hc3 i3 hn
      omega)
  rw [e1] at X' step
  have e2 : vp_cell (Ω.2.2.1 0) (n1, .inl (va_cpy (fun j => Int32.ofInt (mI h a0 j)) (fun j => Int32.ofInt (mI h a j)) (Int32.ofInt sp).toNatClampNeg (Int32.ofInt dp).toNatClampNeg (Int32.ofInt n).toNatClampNeg)) = vp_cell (Ω.2.2.1 0) (n1, .inl (fun j => Int32.ofInt (mI (cI h a0 sp a dp n) a j))) := by
    rw [vp_cell_i, vp_cell_i]
    congr 1
    funext j
    congr 1
    unfold va_cpy
    rw [mI_cI]
    have q1 := hc3 i1 hsp
    have q2 := hc3 i3 hn
    have q3 := hc3 i2 hdp
    by_cases hj : (Int32.ofInt dp).toNatClampNeg ≤ j ∧ j < (Int32.ofInt dp).toNatClampNeg + (Int32.ofInt n).toNatClampNeg
    · rw [if_pos hj, if_pos ⟨rfl, by omega, by omega⟩]
      exact congrArg (fun z => Int32.ofInt (mI h a0 z)) (by omega)
    · rw [if_neg hj, if_neg (by omega)]
  rw [e2] at X' step
  have hlt : a < H.size := (Array.getElem?_eq_some_iff.mp hc1).1
  have hheap : ((T.setVm vm').setCell a (vp_cell (Ω.2.2.1 0) (n1, .inl (fun j => Int32.ofInt (mI (cI h a0 sp a dp n) a j))))).heap = H.setIfInBounds a (vp_cell (Ω.2.2.1 0) (n1, .inl (fun j => Int32.ofInt (mI (cI h a0 sp a dp n) a j)))) := by rw [← hT]; rfl
  have oq : ∀ q : Nat, q ≠ a → (H.setIfInBounds a (vp_cell (Ω.2.2.1 0) (n1, .inl (fun j => Int32.ofInt (mI (cI h a0 sp a dp n) a j)))))[q]? = H[q]? := fun q hq => by simp [Array.getElem?_setIfInBounds, Ne.symm hq]
  obtain ⟨t, a1, b1⟩ := kk p e s m args below meth c _ _ lr cx wd ⟨by simp; exact hS.1, fun q g1 g2 => by
      rw [oq q (fun e => g2 (by rw [e]; exact hc1'.1))]
      exact hS.2.1 q g1 g2, fun q hq => by
      rcases List.mem_append.mp hq with h | h
      · exact hS.2.2 q h
      · obtain ⟨z, -, hz⟩ := List.mem_map.mp h
        rw [← hz]
        exact hc1'.1⟩ (xRel_upd r (H' := H.setIfInBounds a (vp_cell (Ω.2.2.1 0) (n1, .inl (fun j => Int32.ofInt (mI (cI h a0 sp a dp n) a j))))) (by simp) oq rfl rfl (fun b hb => by
          funext j
          rw [mI_cI, if_neg (fun q => hb q.1)]) (fun _ _ => rfl) (fun _ _ => rfl) (fun j => by
          rw [mI_cI]
          split
          · exact r.2.1 _ _
          · exact r.2.1 _ _) (fun t n2 ht => by
          rw [ha] at ht
          cases ht
          rw [xE_10]
          show (H.setIfInBounds a _)[a]? = some _
          simp [Array.getElem?_setIfInBounds, hlt])) hl _ hheap X'
  exact ⟨t, step t a1, b1⟩
theorem X.gets0 {index : Nat} (hd : decode cc pc = .ok (.getstatic index, 3)) (w : Cond.fieldLink own index RX5 "LOWEST_VALUE" "[I" ∈ WG) (hp : pc + 3 = pc') (kk : X Ω own cc nL ret ini R PR PX kc ks pc' ls (rf Ω.2.2.2.2.1 :: st) h) : X Ω own cc nL ret ini R PR PX kc ks pc ls st h := by
  intro p e s m args below meth c H locs lr cx wd hS r hl
  obtain ⟨hx, hb, hr, hml, hown, hlocks, hts, hin, hexc⟩ := id cx
  subst hp
  exact va_gets hx hb wd.2.2.2.2.2.2.2.2.1.1 hS hown (hts _ w) (fun _ q => q) hd (kk p e s m args below meth c H locs lr cx wd hS r hl)
theorem X.gets1 {index : Nat} (hd : decode cc pc = .ok (.getstatic index, 3)) (w : Cond.fieldLink own index RX5 "HIGHEST_VALUE" "[I" ∈ WG) (hp : pc + 3 = pc') (kk : X Ω own cc nL ret ini R PR PX kc ks pc' ls (rf Ω.2.2.2.2.2 :: st) h) : X Ω own cc nL ret ini R PR PX kc ks pc ls st h := by
  intro p e s m args below meth c H locs lr cx wd hS r hl
  obtain ⟨hx, hb, hr, hml, hown, hlocks, hts, hin, hexc⟩ := id cx
  subst hp
  exact va_gets hx hb wd.2.2.2.2.2.2.2.2.2.1.1 hS hown (hts _ w) (fun _ q => q) hd (kk p e s m args below meth c H locs lr cx wd hS r hl)
theorem X.tald0 {i : Int} (hd : decode cc pc = .ok (.iaload, 1)) (h0 : 0 ≤ i) (h1 : i < 3) (hp : pc + 1 = pc') (kk : X Ω own cc nL ret ini R PR PX kc ks pc' ls (vi (if i = 2 then 1 else 0) :: st) h) : X Ω own cc nL ret ini R PR PX kc ks pc ls (vi i :: rf Ω.2.2.2.2.1 :: st) h := by
  intro p e s m args below meth c H locs lr cx wd hS r hl
  obtain ⟨hx, hb, hr, hml, hown, hlocks, hts, hin, hexc⟩ := id cx
  subst hp
  have i1 : inR i := ⟨by omega, by omega⟩
  refine va_ti hx hb wd.2.2.2.2.2.2.2.2.1.2 hS (x_in i1 h0 (by omega)) ?_ hd (kk p e s m args below meth c H locs lr cx wd hS r hl)
  rw [x_nat i1]
  rcases (show i = 0 ∨ i = 1 ∨ i = 2 by omega) with rfl | rfl | rfl <;> rfl
theorem X.tald1 {i : Int} (hd : decode cc pc = .ok (.iaload, 1)) (h0 : 0 ≤ i) (h1 : i < 3) (hp : pc + 1 = pc') (kk : X Ω own cc nL ret ini R PR PX kc ks pc' ls (vi (if i = 0 then 5 else if i = 1 then 4 else 50) :: st) h) : X Ω own cc nL ret ini R PR PX kc ks pc ls (vi i :: rf Ω.2.2.2.2.2 :: st) h := by
  intro p e s m args below meth c H locs lr cx wd hS r hl
  obtain ⟨hx, hb, hr, hml, hown, hlocks, hts, hin, hexc⟩ := id cx
  subst hp
  have i1 : inR i := ⟨by omega, by omega⟩
  refine va_ti hx hb wd.2.2.2.2.2.2.2.2.2.1.2 hS (x_in i1 h0 (by omega)) ?_ hd (kk p e s m args below meth c H locs lr cx wd hS r hl)
  rw [x_nat i1]
  rcases (show i = 0 ∨ i = 1 ∨ i = 2 by omega) with rfl | rfl | rfl <;> rfl
theorem X.mmax {index : Nat} {x y : Int} (hd : decode cc pc = .ok (.invokestatic index, 3)) (w1 : Cond.methodLink own index Lib.Math.max.name ∈ WG) (w2 : Cond.static Lib.Math.max.name ∈ WG) (w3 : Cond.initialized "java/lang/Math" ∈ WG) (w4 : Cond.code Lib.Math.max.name Lib.Math.max.code 2 (some .int) ∈ WG) (hR : 1 ≤ R.frames ∧ (st.map xcat).sum + 13 ≤ R.locals ∧ kc ≤ R.cells ∧ ks ≤ R.slots) (hx0 : inR x) (hy0 : inR y) (hp : pc + 3 = pc')
    (kk : ∀ z, z = (if x < y then y else x) → X Ω own cc nL ret ini R PR PX kc ks pc' ls (vi z :: st) h) : X Ω own cc nL ret ini R PR PX kc ks pc ls (vi y :: vi x :: st) h := by
  intro p e s m args below meth c H locs lr cx wd hS r hl
  obtain ⟨hx, hb, hr, hml, hown, hlocks, hts, hin, hexc⟩ := id cx
  subst hp
  refine va_mmax hx hb (hml.trans hl.1.symm) hown (hts _ w1) (hts _ w2) (hts _ w3) (hts _ w4) hR.1 (by rw [x_cats]; exact hR.2.1) hR.2.2.1 hR.2.2.2 hd ?_
  have e9 : (if Int32.ofInt x < Int32.ofInt y then Int32.ofInt y else Int32.ofInt x) = Int32.ofInt (if x < y then y else x) := by
    by_cases q : x < y
    · rw [if_pos q, if_pos ((x_lt hx0 hy0).mpr q)]
    · rw [if_neg q, if_neg (fun z => q ((x_lt hx0 hy0).mp z))]
  rw [e9]
  exact kk _ rfl p e s m args below meth c H locs lr cx wd hS r hl
theorem X.mmin {index : Nat} {x y : Int} (hd : decode cc pc = .ok (.invokestatic index, 3)) (w1 : Cond.methodLink own index Lib.Math.min.name ∈ WG) (w2 : Cond.static Lib.Math.min.name ∈ WG) (w3 : Cond.initialized "java/lang/Math" ∈ WG) (w4 : Cond.code Lib.Math.min.name Lib.Math.min.code 2 (some .int) ∈ WG) (hR : 1 ≤ R.frames ∧ (st.map xcat).sum + 13 ≤ R.locals ∧ kc ≤ R.cells ∧ ks ≤ R.slots) (hx0 : inR x) (hy0 : inR y) (hp : pc + 3 = pc')
    (kk : ∀ z, z = (if y < x then y else x) → X Ω own cc nL ret ini R PR PX kc ks pc' ls (vi z :: st) h) : X Ω own cc nL ret ini R PR PX kc ks pc ls (vi y :: vi x :: st) h := by
  intro p e s m args below meth c H locs lr cx wd hS r hl
  obtain ⟨hx, hb, hr, hml, hown, hlocks, hts, hin, hexc⟩ := id cx
  subst hp
  refine va_mmin hx hb (hml.trans hl.1.symm) hown (hts _ w1) (hts _ w2) (hts _ w3) (hts _ w4) hR.1 (by rw [x_cats]; exact hR.2.1) hR.2.2.1 hR.2.2.2 hd ?_
  have e9 : (if Int32.ofInt y < Int32.ofInt x then Int32.ofInt y else Int32.ofInt x) = Int32.ofInt (if y < x then y else x) := by
    by_cases q : y < x
    · rw [if_pos q, if_pos ((x_lt hy0 hx0).mpr q)]
    · rw [if_neg q, if_neg (fun z => q ((x_lt hy0 hx0).mp z))]
  rw [e9]
  exact kk _ rfl p e s m args below meth c H locs lr cx wd hS r hl
theorem X.mabs {index : Nat} {x : Int} (hd : decode cc pc = .ok (.invokestatic index, 3)) (w1 : Cond.methodLink own index Lib.Math.abs.name ∈ WG) (w2 : Cond.static Lib.Math.abs.name ∈ WG) (w3 : Cond.initialized "java/lang/Math" ∈ WG) (w4 : Cond.code Lib.Math.abs.name Lib.Math.abs.code 1 (some .int) ∈ WG) (hR : 1 ≤ R.frames ∧ (st.map xcat).sum + 13 ≤ R.locals ∧ kc ≤ R.cells ∧ ks ≤ R.slots) (hx0 : inR x) (hp : pc + 3 = pc')
    (kk : ∀ z, z = (if 0 ≤ x then x else 0 - x) → X Ω own cc nL ret ini R PR PX kc ks pc' ls (vi z :: st) h) : X Ω own cc nL ret ini R PR PX kc ks pc ls (vi x :: st) h := by
  intro p e s m args below meth c H locs lr cx wd hS r hl
  obtain ⟨hx, hb, hr, hml, hown, hlocks, hts, hin, hexc⟩ := id cx
  subst hp
  refine va_mabs hx hb (hml.trans hl.1.symm) hown (hts _ w1) (hts _ w2) (hts _ w3) (hts _ w4) hR.1 (by rw [x_cats]; exact hR.2.1) hR.2.2.1 hR.2.2.2 hd ?_
  have e9 : (if 0 ≤ Int32.ofInt x then Int32.ofInt x else 0 - Int32.ofInt x) = Int32.ofInt (if 0 ≤ x then x else 0 - x) := by
    rw [show (0 : Int32) = Int32.ofInt 0 from rfl]
    by_cases q : 0 ≤ x
    · rw [if_pos q, if_pos ((x_le inR_0 hx0).mpr q)]
    · rw [if_neg q, if_neg (fun z => q ((x_le inR_0 hx0).mp z)), ← Int32.ofInt_sub]
  rw [e9]
  exact kk _ rfl p e s m args below meth c H locs lr cx wd hS r hl
end XR4
