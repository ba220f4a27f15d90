/-! ===== X: new cells, calls, ends ===== -/
theorem xr_outer (c : ClassId) (N h0 : Nat) : ∀ i : Nat, Jvm.Free.Multi.outerC c N h0 i = arrV c N (fun j => va_rf (if j < i then some (h0 + 1 + j) else none))
  | 0 => by
    show ({ cls := c, slots := Array.replicate N .null, vm := .none } : Cell) = _
    rw [arrV_new]
    refine congrArg (arrV c N) (funext fun j => ?_)
    simp [va_rf]
  | i + 1 => by
    show (Jvm.Free.Multi.outerC c N h0 i).setSlot i (.ref (h0 + 1 + i)) = _
    rw [xr_outer c N h0 i, arrV_store]
    refine congrArg (arrV c N) (funext fun j => ?_)
    by_cases e : j = i
    · subst e
      simp [updV, va_rf]
    · by_cases h : j < i
      · simp [updV, e, h, Nat.lt_succ_of_lt h]
      · simp [updV, e, h, show ¬ j < i + 1 by omega]
section XR3
variable {Ω : xO} {own : String} {cc : ByteArray} {nL : Nat} {ret : Option FieldType} {ini : Bool} {R : Room} {PR : Option xV → xM → Prop} {PX : String → xM → Prop} {kc ks pc pc' : Nat} {ls : List (Option xV)} {st : List xV} {h : xM}
theorem X.aast14 {a n v nv : Nat} {i : Int} (hd : decode cc pc = .ok (.aastore, 1)) (ha : mT h a = some (14, n)) (h0 : 0 ≤ i) (h1 : i < n) (h2 : inR i) (hv : mT h v = some (0, nv)) (hp : pc + 1 = pc') (kk : X Ω own cc nL ret ini R PR PX kc ks pc' ls st (sR h a i (some v))) : X Ω own cc nL ret ini R PR PX kc ks pc ls (rf v :: vi i :: rf a :: st) h := by
  intro p e s m args below meth c H locs lr cx wd hS r hl
  obtain ⟨hx, hb, hr, hml, hown, hlocks, hts, hin, hexc⟩ := id cx
  subst hp
  have hA := r.2.2 a 14 n ha
  rw [xE_14] at hA
  have hV := (r.2.2 v 0 nv hv).2
  rw [xE_obj (by omega)] at hV
  have hlt : i.toNat < n := by omega
  obtain ⟨r', hr', cellV, g1, g2, g3, -⟩ := hV
  have hcls := (wd.1.1 0 (RX0, TX0, 12) rfl).2
  obtain ⟨kA, comp, k1, k2, k3, -⟩ := (wd.1.2 4 (Ω.2.2.1 4, .object RX0) rfl).2
  have hcomp : comp = Ω.2.1.1 0 := Option.some.inj (k3.symm.trans hcls.1)
  subst hcomp
  obtain ⟨kC, hkC, -⟩ := hcls.2
  have hin9 := x_in (n := n) h2 h0 h1
  refine W.aast hx hb (a := a) (cell := arrV (Ω.2.2.1 4) n (fun j => va_rf (mR h a j))) (j := Int32.ofInt i) hA.2 (fun q h => by cases h) (fun h => by cases h) k1 k2 rfl hkC ⟨fun q => hin9 (Or.inl q), by rw [arrV_size, x_nat h2]; exact hlt⟩ g1 (fun q h => by rw [g3] at h; cases h) (by rw [g2]; exact hkC) (by rw [g2]; exact va_assign hcls) rfl rfl hd fun H' e1 e2 e3 => ?_
  refine kk p e s m args below meth c H' _ lr cx wd (hS.put e2 e3 hA.1) (xRel_upd r e2 e3 rfl rfl (fun _ _ => rfl) (fun b hb => ?_) (fun _ _ => rfl) (fun j => r.2.1 _ _) (fun t n2 ht => ?_)) hl
  · funext j
    rw [mR_sR, if_neg (fun q => hb q.1)]
  · rw [ha] at ht
    cases ht
    rw [xE_14]
    show H'[a]? = some (vp_cell _ _)
    rw [e1, vp_cell_q, arrV_store, x_nat h2]
    congr 2
    funext j
    unfold updV
    rw [mR_sR]
    by_cases e : j = i.toNat
    · rw [if_pos e, if_pos ⟨rfl, by omega⟩]
      rfl
    · rw [if_neg e, if_neg (fun q => e (by have := q.2; omega))]
/-- new: a cell of the class ci -/
theorem X.new {index ci n : Nat} {C : String} {T : u_T} (hd : decode cc pc = .ok (.new index, 3)) (hc : xCls ci) (hci : ci < 7) (hC : vwCl[ci]? = some (C, T, n)) (w1 : Cond.classLink own index C ∈ WG) (w2 : Cond.instantiable C n ∈ WG) (w3 : Cond.initialized C ∈ WG) (hkc : kc + 1 ≤ R.cells) (hks : ks + n ≤ R.slots) (hp : pc + 3 = pc')
    (kk : X Ω own cc nL ret ini R PR PX (kc + 1) (ks + n) pc' ls (rf (mN h) :: st) (aL h ci n)) : X Ω own cc nL ret ini R PR PX kc ks pc ls st h := by
  intro p e s m args below meth c H locs lr cx wd hS r hl
  obtain ⟨hx, hb, hr, hml, hown, hlocks, hts, hin, hexc⟩ := id cx
  subst hp
  obtain ⟨g1, g2, ty, g3, g4⟩ := hc _ hC
  have hKn := wd.1.1 ci _ hC
  refine W.newcK hx hb hown (hts _ w1) (hts _ w2) (hts _ w3) rfl hd hkc hks hKn.2.1 rfl fun H1 kC hkC e1 z1 o1 => ?_
  rw [r.1] at e1 z1 o1
  have e2 : Value.ref H.size = xc (rf (mN h)) := by rw [r.1]; rfl
  rw [e2]
  refine kk p e s m args below meth c H1 locs lr cx wd (xS_grow hS (by rw [r.1]; omega) (fun q hq => o1 q (by rw [← r.1]; exact hq))) (xRel_new r (xS_B wd hS) z1 (fun q hq => o1 q (by rw [← r.1]; exact hq)) (fun b hb => ?_) (fun b hb => ?_) (fun b hb => ?_) (fun b hb => ?_) (fun b k hb => ?_) (fun b t m2 hb ht => ?_)) hl
  · rw [mT_aL, if_neg (by omega)]
  · funext j
    rw [mI_aL, if_neg (by omega)]
  · funext j
    rw [mR_aL, if_neg (by omega)]
  · funext j
    rw [mL_aL, if_neg (by omega)]
  · rw [mI_aL]
    split
    · exact inR_0
    · exact r.2.1 _ _
  · rw [mT_aL] at ht
    by_cases e9 : b = mN h
    · rw [if_pos e9] at ht
      cases ht
      subst e9
      rw [xE_obj hci]
      refine ⟨_, hC, (u_born ty hts g1 hKn hkC e1 g3).to (fun k hk => ?_)⟩
      unfold vp_V
      rw [List.getD_eq_getElem?_getD, List.getElem?_map, List.getElem?_range hk]
      have h4 := g4 k hk
      simp only [Option.map_some, Option.getD_some, xfv, mI_aL, mR_aL, mL_aL, if_true]
      rcases (show xft ci k = 0 ∨ xft ci k = 1 ∨ xft ci k = 2 ∨ xft ci k = 3 by omega) with q | q | q | q
      · rw [h4.1 q, q]; rfl
      · rw [h4.2.1 q, q]; rfl
      · rw [q]
        rcases h4.2.2.1 q with ⟨C9, q9⟩ | ⟨t9, q9⟩ <;> rw [q9] <;> rfl
      · rw [h4.2.2.2.1 q, q]; rfl
    · rw [if_neg e9] at ht
      exact absurd (r.lt ht) (by omega)
/-- new array of a simple kind: t 10 int, 11 char, 12 long -/
theorem X.newa {at_ : ArrayType} {k : Int} {N t : Nat} (hd : decode cc pc = .ok (.newarray at_, 2)) (ht : (t = 10 ∧ newarray.typeOf at_ = .int) ∨ (t = 11 ∧ newarray.typeOf at_ = .char) ∨ False) (w : Cond.arrayClass (newarray.typeOf at_) ∈ WG) (hk : k = N) (hN : N ≤ 50000000) (hkc : kc + 1 ≤ R.cells) (hks : ks + N ≤ R.slots) (hp : pc + 2 = pc')
    (kk : X Ω own cc nL ret ini R PR PX (kc + 1) (ks + N) pc' ls (rf (mN h) :: st) (aL h t N)) : X Ω own cc nL ret ini R PR PX kc ks pc ls (vi k :: st) h := by
  intro p e s m args below meth c H locs lr cx wd hS r hl
  obtain ⟨hx, hb, hr, hml, hown, hlocks, hts, hin, hexc⟩ := id cx
  subst hp
  subst hk
  have hi : inR (N : Int) := ⟨by omega, by omega⟩
  have hn0 : ¬ Int32.ofInt (N : Int) < 0 := by
    rw [show (0 : Int32) = Int32.ofInt 0 from rfl, x_lt hi inR_0]
    omega
  refine va_newaK hx hb (hts _ w) rfl hd rfl hn0 (N := N) (by rw [x_nat hi]; omega) (by rcases ht with ⟨-, q⟩ | ⟨-, q⟩ | q <;> first | exact q.elim | (rw [q] <;> simp [componentBytes] <;> omega)) hkc hks rfl fun H1 cA e1 z1 o1 hAr hNm => ?_
  rw [r.1] at e1 z1 o1
  have e2 : Value.ref H.size = xc (rf (mN h)) := by rw [r.1]; rfl
  rw [e2]
  refine kk p e s m args below meth c H1 locs lr cx wd (xS_grow hS (by rw [r.1]; omega) (fun q hq => o1 q (by rw [← r.1]; exact hq))) (xRel_new r (xS_B wd hS) z1 (fun q hq => o1 q (by rw [← r.1]; exact hq)) (fun b hb => ?_) (fun b hb => ?_) (fun b hb => ?_) (fun b hb => ?_) (fun b k hb => ?_) (fun b t9 m2 hb ht9 => ?_)) hl
  · rw [mT_aL, if_neg (by omega)]
  · funext j
    rw [mI_aL, if_neg (by omega)]
  · funext j
    rw [mR_aL, if_neg (by omega)]
  · funext j
    rw [mL_aL, if_neg (by omega)]
  · rw [mI_aL]
    split
    · exact inR_0
    · exact r.2.1 _ _
  · rw [mT_aL] at ht9
    by_cases e9 : b = mN h
    · rw [if_pos e9] at ht9
      cases ht9
      subst e9
      rcases ht with ⟨rfl, q⟩ | ⟨rfl, q⟩ | q
      · rw [q] at hNm e1
        have q2 : cA = Ω.2.2.1 0 := Option.some.inj (hNm.symm.trans (wd.1.2 0 _ rfl).2)
        rw [xE_10]
        show H1[mN h]? = some (vp_cell _ _)
        rw [e1, vp_cell_i, q2]
        congr 2
        funext j
        rw [mI_aL, if_pos rfl]
        rfl
      · rw [q] at hNm e1
        have q2 : cA = Ω.2.2.1 1 := Option.some.inj (hNm.symm.trans (wd.1.2 1 _ rfl).2)
        rw [xE_11]
        show H1[mN h]? = some (vp_cell _ _)
        rw [e1, vp_cell_i, q2]
        congr 2
        funext j
        rw [mI_aL, if_pos rfl]
        rfl
      · exact q.elim
    · rw [if_neg e9] at ht9
      exact absurd (r.lt ht9) (by omega)
/-- new Chamber[N] -/
theorem X.anew {index : Nat} {k : Int} {N : Nat} (hd : decode cc pc = .ok (.anewarray index, 3)) (w : Cond.classLink own index RX0 ∈ WG) (hk : k = N) (hN : N ≤ 50000000) (hkc : kc + 1 ≤ R.cells) (hks : ks + N ≤ R.slots) (hp : pc + 3 = pc')
    (kk : X Ω own cc nL ret ini R PR PX (kc + 1) (ks + N) pc' ls (rf (mN h) :: st) (aL h 14 N)) : X Ω own cc nL ret ini R PR PX kc ks pc ls (vi k :: st) h := by
  intro p e s m args below meth c H locs lr cx wd hS r hl
  obtain ⟨hx, hb, hr, hml, hown, hlocks, hts, hin, hexc⟩ := id cx
  subst hp
  subst hk
  have hi : inR (N : Int) := ⟨by omega, by omega⟩
  have hn0 : ¬ Int32.ofInt (N : Int) < 0 := by
    rw [show (0 : Int32) = Int32.ofInt 0 from rfl, x_lt hi inR_0]
    omega
  have hN9 : (Int32.ofInt (N : Int)).toNatClampNeg = N := by rw [x_nat hi]; omega
  refine W.anew hx hb hown (hts _ w) (va_AO.use wd.2.2.2.2.1.1) rfl hd rfl hn0 (by rw [hN9]; omega) hkc (by rw [hN9]; exact hks) fun cA kA comp f1 f2 f3 f4 => ?_
  rw [hN9, arrV_new]
  have q2 : cA = Ω.2.2.1 4 := Option.some.inj (f1.symm.trans wd.2.1.2.2)
  have e2 : Value.ref H.size = xc (rf (mN h)) := by rw [r.1]; rfl
  have o1 : ∀ q : Nat, q < H.size → (H.push (arrV cA N (fun _ => .null)))[q]? = H[q]? := fun q hq => by rw [Array.getElem?_push, if_neg (Nat.ne_of_lt hq)]
  have e1 : (H.push (arrV cA N (fun _ => .null)))[mN h]? = some (arrV cA N (fun _ => .null)) := by rw [← r.1]; simp
  have z1 : (H.push (arrV cA N (fun _ => .null))).size = mN h + 1 := by rw [← r.1]; simp
  rw [e2]
  refine kk p e s m args below meth c _ locs lr cx wd (xS_grow hS (by rw [z1, r.1]; omega) o1) (xRel_new r (xS_B wd hS) z1 o1 (fun b hb => ?_) (fun b hb => ?_) (fun b hb => ?_) (fun b hb => ?_) (fun b k hb => ?_) (fun b t9 m2 hb ht9 => ?_)) hl
  · rw [mT_aL, if_neg (by omega)]
  · funext j
    rw [mI_aL, if_neg (by omega)]
  · funext j
    rw [mR_aL, if_neg (by omega)]
  · funext j
    rw [mL_aL, if_neg (by omega)]
  · rw [mI_aL]
    split
    · exact inR_0
    · exact r.2.1 _ _
  · rw [mT_aL] at ht9
    by_cases e9 : b = mN h
    · rw [if_pos e9] at ht9
      cases ht9
      subst e9
      rw [xE_14]
      show _ = some (vp_cell _ _)
      rw [e1, vp_cell_q, q2]
      congr 2
      funext j
      rw [mR_aL, if_pos rfl]
      rfl
    · rw [if_neg e9] at ht9
      exact absurd (r.lt ht9) (by omega)
/-- new int[K][N] -/
theorem X.mnew {index : Nat} {k1 k2 : Int} {K N : Nat} (hd : decode cc pc = .ok (.multianewarray index 2, 4)) (w : Cond.classLink own index ("[" ++ (FieldType.array .int).toString) ∈ WG) (w2 : Cond.arrayClass .int ∈ WG) (hk1 : k1 = K) (hk2 : k2 = N) (hK : K ≤ 1000) (hN : N ≤ 1000000) (hkc : kc + 1 + K ≤ R.cells) (hks : ks + K + K * N ≤ R.slots) (hp : pc + 4 = pc')
    (kk : X Ω own cc nL ret ini R PR PX (kc + 1 + K) (ks + K + K * N) pc' ls (rf (mN h) :: st) (aM h K N)) : X Ω own cc nL ret ini R PR PX kc ks pc ls (vi k2 :: vi k1 :: st) h := by
  intro p e s m args below meth c H locs lr cx wd hS r hl
  obtain ⟨hx, hb, hr, hml, hown, hlocks, hts, hin, hexc⟩ := id cx
  subst hp
  subst hk1
  subst hk2
  have hi1 : inR (K : Int) := ⟨by omega, by omega⟩
  have hi2 : inR (N : Int) := ⟨by omega, by omega⟩
  have hn1 : ¬ Int32.ofInt (K : Int) < 0 := by
    rw [show (0 : Int32) = Int32.ofInt 0 from rfl, x_lt hi1 inR_0]
    omega
  have hn2 : ¬ Int32.ofInt (N : Int) < 0 := by
    rw [show (0 : Int32) = Int32.ofInt 0 from rfl, x_lt hi2 inR_0]
    omega
  have c1 : (Int32.ofInt (K : Int)).toNatClampNeg = K := by rw [x_nat hi1]; omega
  have c2 : (Int32.ofInt (N : Int)).toNatClampNeg = N := by rw [x_nat hi2]; omega
  intro T hT Xs
  obtain ⟨vm₁, cA, comp, -, fA, fC, hO, hI9, X', step⟩ := Xs.multianewarray2F hx hown (hts _ w) wd.2.2.2.2.1.2 (hts _ w2) (g := F0 m pc lr (.int (Int32.ofInt N) :: .int (Int32.ofInt K) :: st.map xc)) rfl (by rw [hb]; exact hd) rfl hn1 hn2 (by rw [c1]; omega) (by rw [c2]; simp [componentBytes]; omega) (by rw [c2]; omega) rfl rfl (by rw [c1]; omega) (by rw [c1, c2]; omega)
  rw [c1, c2] at X' step
  have q1 : cA = Ω.2.2.1 3 := Option.some.inj (fA.symm.trans wd.2.1.1)
  have q2 : comp = Ω.2.2.1 0 := Option.some.inj (fC.symm.trans wd.2.1.2.1)
  subst q1
  subst q2
  generalize hF : Jvm.Free.Multi.fill (T.setVm vm₁) (Ω.2.2.1 3) (Ω.2.2.1 0) K N (defaultValue .int) K = F at X' step
  have hTh : (T.setVm vm₁).heap = H := hT
  obtain ⟨f1, f2, -, -⟩ := Jvm.Free.Multi.fill_facts (T.setVm vm₁) (Ω.2.2.1 3) (Ω.2.2.1 0) K N (defaultValue .int) K
  rw [hF, hTh] at f1 f2
  have hold : ∀ x : Nat, x < H.size → F.heap[x]? = H[x]? := fun x hx => by
    have := Jvm.Free.Multi.fill_old (T.setVm vm₁) (Ω.2.2.1 3) (Ω.2.2.1 0) K N (defaultValue .int) (a := x) (by rw [hTh]; exact hx) K
    rw [hF, hTh] at this
    exact this
  have hrow : ∀ j : Nat, j < K → F.heap[H.size + 1 + j]? = some (Jvm.Free.Multi.innerC (Ω.2.2.1 0) N (defaultValue .int)) := fun j hj => by
    have := Jvm.Free.Multi.fill_inner (T.setVm vm₁) (Ω.2.2.1 3) (Ω.2.2.1 0) K N (defaultValue .int) K j hj
    rw [hF, hTh] at this
    exact this
  have hz : F.heap.size = mN (aM h K N) := by rw [mN_aM, ← r.1, f1]
  have rr : xRel Ω (aM h K N) F.heap := by
    refine xRel_new r (xS_B wd hS) hz hold (fun b hb => ?_) (fun b hb => ?_) (fun b hb => ?_) (fun b hb => ?_) (fun b k hb => ?_) (fun b t9 m2 hb ht9 => ?_)
    · rw [mT_aM, if_neg (by omega), if_neg (by omega)]
    · funext j
      rw [mI_aM, if_neg (by omega)]
    · funext j
      rw [mR_aM, if_neg (by omega), if_neg (by omega)]
    · funext j
      rw [mL_aM, if_neg (by omega)]
    · rw [mI_aM]
      split
      · exact inR_0
      · exact r.2.1 _ _
    · rw [mT_aM] at ht9
      by_cases e9 : b = mN h
      · rw [if_pos e9] at ht9
        cases ht9
        subst e9
        rw [xE_13]
        show _ = some (vp_cell _ _)
        rw [← r.1, f2, vp_cell_q]
        congr 1
        rw [xr_outer]
        congr 1
        funext j
        rw [mR_aM, if_pos r.1]
        by_cases hj : j < K
        · rw [if_pos hj, if_pos ⟨by omega, by omega⟩, ← r.1]
          rfl
        · rw [if_neg hj, if_neg (by omega)]
      · rw [if_neg e9] at ht9
        by_cases e8 : mN h < b ∧ b < mN h + 1 + K
        · rw [if_pos e8] at ht9
          cases ht9
          have := hrow (b - mN h - 1) (by omega)
          rw [r.1, show mN h + 1 + (b - mN h - 1) = b by omega] at this
          rw [xE_10]
          show _ = some (vp_cell _ _)
          rw [this, vp_cell_i]
          show some ({ cls := _, slots := Array.replicate N _, vm := .none } : Cell) = _
          rw [arrV_new]
          congr 2
          funext j
          rw [mI_aM, if_pos ⟨by omega, by omega⟩]
          rfl
        · rw [if_neg e8] at ht9
          exact absurd (r.lt ht9) (by omega)
  obtain ⟨t, a1, b1⟩ := kk p e s m args below meth c F.heap locs lr cx wd (xS_grow hS (by rw [f1]; omega) hold) rr hl F rfl X'
  refine ⟨t, step t ?_, b1⟩
  have e9 : T.heap.size = mN h := by rw [hT, r.1]
  rw [e9]
  exact a1
end XR3
