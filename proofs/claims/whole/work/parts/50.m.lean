set_option maxHeartbeats 4000000 in
set_option maxRecDepth 100000 in
theorem k_X6_saves {Ω : xO} {h : xM} {m : Nat} {L : lS} (hL : ML h m L) : xCt Ω yX6_saves cX6_saves 2 none rm_X6_saves [rf m] h (fun q h' => q = none ∧ ML h' m (sSave L) ∧ GS h h' m) xNo := by
  refine xCt_of (ini := false) (by decide +kernel) (Nat.le_of_ble_eq_true rfl) (fun q => absurd q (by decide)) ?_
  generalize hPR : (fun q h' => q = none ∧ ML h' m (sSave L) ∧ GS h h' m : Option xV → xM → Prop) = PR
  have K0 : X Ω RX6 cX6_saves 2 none false rm_X6_saves PR xNo 0 0 0 [some (rf m), none] [] h := ?_
  exact K0
  have hz := hL.2.2.1
  have hO := hL.2.2.2.2.2.2.2.2
  have hz6 := hO.2.2.1
  have hA : aOK (lA L) := hO.2.1.1
  have hM := hL.2.1
  obtain ⟨mSt, mB, mW, mWl, mWo, mCo, mHe⟩ := id hM
  obtain ⟨okB, okN, okWl, okS, okW, okM, okC, okH⟩ := id hA
  have hTn := hL.2.2.2.2.2.2.1
  have hTr := hO.2.2.2.2.1
  have hKf := hL.2.2.2.2.1
  have hKb := hO.2.2.2.1
  have hr0 := hL.2.2.2.1
  have hok := hO.2.1.2.1
  refine X.aload_n (i := 0) rfl rfl dX6_saves_0 (pc' := 1) rfl ?_
  refine X.getI (x := mI h m 1) fk_X6_25 xcl_6 dX6_saves_1 (by decide) hL.1.1 rfl (pc' := 4) rfl (fun r1 => ?_)
  obtain ⟨r1a, r1b⟩ := r1
  refine X.bipush (by decide +kernel) dX6_saves_4 (pc' := 6) rfl ?_
  refine X.icmp_ne (tgt := 41) dX6_saves_6 ⟨by omega, by omega⟩ ⟨by omega, by omega⟩ (by decide) (pc' := 9) rfl (fun c6 => ?_) (fun c6 => ?_)
  · have J41 : ∀ (g : xM) (y : Int), ((0 ≤ y ∧ y < 6) ∧ GS h g m ∧ mI g m 1 = y ∧ y + 1 = psz (lZ L) ∧ (∀ i, 0 ≤ i → i < y → RM g (m + 1) (4411 * (i + 1)) (psh (lZ L) (lSv L) (lA L) i))) → X Ω RX6 cX6_saves 2 none false rm_X6_saves PR xNo 0 0 41 [some (rf m), none] [] g := by
      intro g y hinv
      obtain ⟨hy, hG, hgy, hyz, hr⟩ := hinv
      have hSg : MoS g m := hL.1.eq hG.1.2.1 hG.1.2.2.1
      refine X.aload_n (i := 0) rfl rfl dX6_saves_41 (pc' := 42) rfl ?_
      refine X.dup rfl dX6_saves_42 (pc' := 43) rfl ?_
      refine X.getI (x := mI g m 1) fk_X6_25 xcl_6 dX6_saves_43 (by decide) hSg.1 rfl (pc' := 46) rfl (fun r2 => ?_)
      obtain ⟨r2a, r2b⟩ := r2
      refine X.iconst dX6_saves_46 (pc' := 47) rfl ?_
      refine X.iadd dX6_saves_47 (pc' := 48) rfl ?_
      refine X.putI fk_X6_25 xcl_6 ⟨_, rfl, Or.inl rfl⟩ dX6_saves_48 (Or.inl rfl) ⟨by omega, by omega⟩ hSg.1 (pc' := 51) rfl ?_
      refine X.genH (fun h3 hh3 => ?_)
      have wh3 : ∀ (w0 : Nat) (w1 : Int), mI h3 w0 w1 = if w0 = m ∧ w1 = 1 then (mI g m 1) + 1 else mI g w0 w1 := fun _ _ => by rw [hh3]; rfl
      have S4 : MoS h3 m := by rw [hh3]; exact hSg
      refine X.aload_n (i := 0) rfl rfl dX6_saves_51 (pc' := 52) rfl ?_
      refine X.iconst dX6_saves_52 (pc' := 53) rfl ?_
      refine X.aload_n (i := 0) rfl rfl dX6_saves_53 (pc' := 54) rfl ?_
      refine X.getI (x := mI h3 m 1) fk_X6_25 xcl_6 dX6_saves_54 (by decide) S4.1 rfl (pc' := 57) rfl (fun r5 => ?_)
      obtain ⟨r5a, r5b⟩ := r5
      have hst2 : mI h3 m 1 = y + 1 := by rw [wh3, if_pos ⟨rfl, rfl⟩, hgy]
      have hG2 : GS h h3 m := by rw [hh3]; exact hG.w
      refine X.callV (ci := 6) (a := m) (rm := rm_X6_copies) (As := [vi 0, vi (mI h3 m 1)]) (st := []) dX6_saves_57 ck_X6_28 rfl (by decide) S4.1 rfl rfl ⟨Nat.le_of_ble_eq_true rfl, Nat.le_of_ble_eq_true rfl⟩ (Nat.le_of_ble_eq_true rfl) (Nat.le_of_ble_eq_true rfl) (Nat.le_of_ble_eq_true rfl) (pc' := 60) rfl (k_X6_copies S4 (by omega) (by omega) (by omega)) (fun q6 hq6 eq6 => ?_) (fun _ _ x1 => x1.elim)
      obtain ⟨rfl, hC⟩ := eq6
      have hC2 : hCp h3 hq6 m 0 (mI h3 m 1) := hC
      rw [hst2] at hC2
      refine X.vret dX6_saves_60 rfl (Nat.le_of_ble_eq_true rfl) (Nat.le_of_ble_eq_true rfl) ?_
      subst hPR
      have hG3 := hG2.tr (hC2.gs (by omega))
      refine ⟨rfl, hL.save hG3 (by rw [hC2.2.1 m (by omega), wh3, if_pos ⟨rfl, rfl⟩, hgy]; exact hyz) (fun i z1 z2 => ?_), hG3⟩
      by_cases e : i = y
      · have := hC2.at (A := lA L) hA (hG2.row hA (Or.inl rfl) hM)
        rw [e]
        have e2 : psh (lZ L) (lSv L) (lA L) y = lA L := by unfold psh; rw [if_pos (by omega)]
        rw [e2]
        exact this
      · have e3 := hr i z1 (by omega)
        exact hC2.no (hO.save.2.1.2.1 i z1 z2) (by omega) (RM_keep e3 (hO.save.2.1.2.1 i z1 z2) (fun j _ _ => by rw [wh3, if_neg (by omega)]))
    refine J41 h (lZ L) ?_
    refine ⟨⟨by omega, by omega⟩, GS.rf, hz, by unfold psz; rw [if_neg (by omega)], fun i z1 z2 => ?_⟩
    have : psh (lZ L) (lSv L) (lA L) i = lSv L i := by
      show (if i = psz (lZ L) - 1 then lA L else if lZ L = 6 then lSv L (i + 1) else lSv L i) = lSv L i
      rw [if_neg (by unfold psz; rw [if_neg (by omega)]; omega), if_neg (by omega)]
    rw [this]
    exact hr0 i z1 z2
  · refine X.iconst dX6_saves_9 (pc' := 10) rfl ?_
    refine X.istore_n (i := 1) (ls' := [some (rf m), some (vi 1)]) (hi := rfl) (hd := dX6_saves_10) (by decide) rfl rfl (pc' := 11) rfl ?_
    have L11 : ∀ (n11 : Nat) (g : xM) (k : Int), (6 - k).toNat < n11 → ((1 ≤ k ∧ k ≤ 6) ∧ GS h g m ∧ mI g m 1 = 6 ∧ (∀ i, 0 ≤ i → i < k - 1 → RM g (m + 1) (4411 * (i + 1)) (lSv L (i + 1))) ∧ (∀ i, k - 1 ≤ i → i < 6 → RM g (m + 1) (4411 * (i + 1)) (lSv L i))) → X Ω RX6 cX6_saves 2 none false rm_X6_saves PR xNo 0 0 11 [some (rf m), some (vi k)] [] g := by
      intro n11
      induction n11 with
      | zero => intro g k hm _; exfalso; omega
      | succ n11 ih11 =>
        intro g k hm11 hinv
        obtain ⟨hk, hG, hg6, hrA, hrB⟩ := hinv
        have hSg : MoS g m := hL.1.eq hG.1.2.1 hG.1.2.2.1
        refine X.iload_n (i := 1) rfl rfl dX6_saves_11 (pc' := 12) rfl ?_
        refine X.bipush (by decide +kernel) dX6_saves_12 (pc' := 14) rfl ?_
        refine X.icmp_ge (tgt := 31) dX6_saves_14 ⟨by omega, by omega⟩ ⟨by omega, by omega⟩ (by decide) (pc' := 17) rfl (fun c14 => ?_) (fun c14 => ?_)
        · refine X.aload_n (i := 0) rfl rfl dX6_saves_31 (pc' := 32) rfl ?_
          refine X.dup rfl dX6_saves_32 (pc' := 33) rfl ?_
          refine X.getI (x := mI g m 1) fk_X6_25 xcl_6 dX6_saves_33 (by decide) hSg.1 rfl (pc' := 36) rfl (fun r7 => ?_)
          obtain ⟨r7a, r7b⟩ := r7
          refine X.iconst dX6_saves_36 (pc' := 37) rfl ?_
          refine X.isub dX6_saves_37 (pc' := 38) rfl ?_
          refine X.putI fk_X6_25 xcl_6 ⟨_, rfl, Or.inl rfl⟩ dX6_saves_38 (Or.inl rfl) ⟨by omega, by omega⟩ hSg.1 (pc' := 41) rfl ?_
          refine X.genH (fun h8 hh8 => ?_)
          have wh8 : ∀ (w0 : Nat) (w1 : Int), mI h8 w0 w1 = if w0 = m ∧ w1 = 1 then (mI g m 1) - 1 else mI g w0 w1 := fun _ _ => by rw [hh8]; rfl
          have S9 : MoS h8 m := by rw [hh8]; exact hSg
          have J41 : ∀ (g : xM) (y : Int), ((0 ≤ y ∧ y < 6) ∧ GS h g m ∧ mI g m 1 = y ∧ y + 1 = psz (lZ L) ∧ (∀ i, 0 ≤ i → i < y → RM g (m + 1) (4411 * (i + 1)) (psh (lZ L) (lSv L) (lA L) i))) → X Ω RX6 cX6_saves 2 none false rm_X6_saves PR xNo 0 0 41 [some (rf m), none] [] g := by
            intro g y hinv
            obtain ⟨hy, hG, hgy, hyz, hr⟩ := hinv
            have hSg : MoS g m := hL.1.eq hG.1.2.1 hG.1.2.2.1
            refine X.aload_n (i := 0) rfl rfl dX6_saves_41 (pc' := 42) rfl ?_
            refine X.dup rfl dX6_saves_42 (pc' := 43) rfl ?_
            refine X.getI (x := mI g m 1) fk_X6_25 xcl_6 dX6_saves_43 (by decide) hSg.1 rfl (pc' := 46) rfl (fun r10 => ?_)
            obtain ⟨r10a, r10b⟩ := r10
            refine X.iconst dX6_saves_46 (pc' := 47) rfl ?_
            refine X.iadd dX6_saves_47 (pc' := 48) rfl ?_
            refine X.putI fk_X6_25 xcl_6 ⟨_, rfl, Or.inl rfl⟩ dX6_saves_48 (Or.inl rfl) ⟨by omega, by omega⟩ hSg.1 (pc' := 51) rfl ?_
            refine X.genH (fun h11 hh11 => ?_)
            have wh11 : ∀ (w0 : Nat) (w1 : Int), mI h11 w0 w1 = if w0 = m ∧ w1 = 1 then (mI g m 1) + 1 else mI g w0 w1 := fun _ _ => by rw [hh11]; rfl
            have S12 : MoS h11 m := by rw [hh11]; exact hSg
            refine X.aload_n (i := 0) rfl rfl dX6_saves_51 (pc' := 52) rfl ?_
            refine X.iconst dX6_saves_52 (pc' := 53) rfl ?_
            refine X.aload_n (i := 0) rfl rfl dX6_saves_53 (pc' := 54) rfl ?_
            refine X.getI (x := mI h11 m 1) fk_X6_25 xcl_6 dX6_saves_54 (by decide) S12.1 rfl (pc' := 57) rfl (fun r13 => ?_)
            obtain ⟨r13a, r13b⟩ := r13
            have hst2 : mI h11 m 1 = y + 1 := by rw [wh11, if_pos ⟨rfl, rfl⟩, hgy]
            have hG2 : GS h h11 m := by rw [hh11]; exact hG.w
            refine X.callV (ci := 6) (a := m) (rm := rm_X6_copies) (As := [vi 0, vi (mI h11 m 1)]) (st := []) dX6_saves_57 ck_X6_28 rfl (by decide) S12.1 rfl rfl ⟨Nat.le_of_ble_eq_true rfl, Nat.le_of_ble_eq_true rfl⟩ (Nat.le_of_ble_eq_true rfl) (Nat.le_of_ble_eq_true rfl) (Nat.le_of_ble_eq_true rfl) (pc' := 60) rfl (k_X6_copies S12 (by omega) (by omega) (by omega)) (fun q14 hq14 eq14 => ?_) (fun _ _ x1 => x1.elim)
            obtain ⟨rfl, hC⟩ := eq14
            have hC2 : hCp h11 hq14 m 0 (mI h11 m 1) := hC
            rw [hst2] at hC2
            refine X.vret dX6_saves_60 rfl (Nat.le_of_ble_eq_true rfl) (Nat.le_of_ble_eq_true rfl) ?_
            subst hPR
            have hG3 := hG2.tr (hC2.gs (by omega))
            refine ⟨rfl, hL.save hG3 (by rw [hC2.2.1 m (by omega), wh11, if_pos ⟨rfl, rfl⟩, hgy]; exact hyz) (fun i z1 z2 => ?_), hG3⟩
            by_cases e : i = y
            · have := hC2.at (A := lA L) hA (hG2.row hA (Or.inl rfl) hM)
              rw [e]
              have e2 : psh (lZ L) (lSv L) (lA L) y = lA L := by unfold psh; rw [if_pos (by omega)]
              rw [e2]
              exact this
            · have e3 := hr i z1 (by omega)
              exact hC2.no (hO.save.2.1.2.1 i z1 z2) (by omega) (RM_keep e3 (hO.save.2.1.2.1 i z1 z2) (fun j _ _ => by rw [wh11, if_neg (by omega)]))
          refine X.mask (bs := [true, false]) (ls' := [some (rf m), none]) rfl ?_
          refine J41 h8 5 ?_
          have e : k = 6 := by omega
          subst e
          refine ⟨⟨by decide, by decide⟩, by rw [hh8]; exact hG.w, by rw [wh8, if_pos ⟨rfl, rfl⟩]; omega, by unfold psz; rw [if_pos (by omega)]; rfl, fun i z1 z2 => ?_⟩
          have : psh (lZ L) (lSv L) (lA L) i = lSv L (i + 1) := by
            show (if i = psz (lZ L) - 1 then lA L else if lZ L = 6 then lSv L (i + 1) else lSv L i) = lSv L (i + 1)
            rw [if_neg (by unfold psz; rw [if_pos (by omega)]; omega), if_pos (by omega)]
          rw [this]
          exact RM_keep (hrA i z1 (by omega)) (hok (i + 1) (by omega) (by omega)) (fun j _ _ => by rw [wh8, if_neg (by omega)])
        · refine X.aload_n (i := 0) rfl rfl dX6_saves_17 (pc' := 18) rfl ?_
          refine X.iload_n (i := 1) rfl rfl dX6_saves_18 (pc' := 19) rfl ?_
          refine X.iconst dX6_saves_19 (pc' := 20) rfl ?_
          refine X.iadd dX6_saves_20 (pc' := 21) rfl ?_
          refine X.iload_n (i := 1) rfl rfl dX6_saves_21 (pc' := 22) rfl ?_
          refine X.callV (ci := 6) (a := m) (rm := rm_X6_copies) (As := [vi (k + 1), vi k]) (st := []) dX6_saves_22 ck_X6_28 rfl (by decide) hSg.1 rfl rfl ⟨Nat.le_of_ble_eq_true rfl, Nat.le_of_ble_eq_true rfl⟩ (Nat.le_of_ble_eq_true rfl) (Nat.le_of_ble_eq_true rfl) (Nat.le_of_ble_eq_true rfl) (pc' := 25) rfl (k_X6_copies hSg (by omega) (by omega) (by omega)) (fun q15 hq15 eq15 => ?_) (fun _ _ x1 => x1.elim)
          obtain ⟨rfl, hC⟩ := eq15
          have hC2 : hCp g hq15 m (k + 1) k := hC
          refine X.iinc (i := 1) (ls' := [some (rf m), some (vi (k + 1))]) dX6_saves_25 rfl (by decide) rfl rfl (pc' := 28) rfl ?_
          refine X.goto (tgt := 11) dX6_saves_28 (by decide) ?_
          refine ih11 hq15 (k + 1) (by omega) ?_
          refine ⟨by omega, hG.tr (hC2.gs (by omega)), by rw [hC2.2.1 m (by omega)]; exact hg6, fun i z1 z2 => ?_, fun i z1 z2 => hC2.no (hok i (by omega) (by omega)) (by omega) (hrB i (by omega) z2)⟩
          by_cases e : i = k - 1
          · have := hC2.at (hok k (by omega) (by omega)) (hrB k (by omega) (by omega))
            rw [show i + 1 = k by omega]
            exact this
          · exact hC2.no (hok (i + 1) (by omega) (by omega)) (by omega) (hrA i z1 (by omega))
    refine L11 _ h 1 (Nat.lt_succ_self _) ?_
    exact ⟨by omega, GS.rf, by omega, fun i z1 z2 => by omega, fun i z1 z2 => hr0 i (by omega) (by omega)⟩
set_option maxHeartbeats 4000000 in
set_option maxRecDepth 100000 in
theorem k_X6_say {Ω : xO} {h : xM} {m : Nat} {L : lS} {s w u : Int} (hL : ML h m L) (irs : inR s) (irw : inR w) (iru : inR u) : xCt Ω yX6_say cX6_say 4 (some .int) rm_X6_say [rf m, vi s, vi w, vi u] h (fun q h' => FM h h' m ∧ ∃ v, q = some (vi v) ∧ ((((0 ≤ s ∧ s < 6) ∧ ((1 ≤ w ∧ w ≤ 99) ∧ (-1 ≤ u ∧ u ≤ 9)) ∧ (aW (lA L) < 200 ∧ aB (lA L) < 400)) ∧ mI h' m 3 = 0 ∧ v = aW (lA L) ∧ ML h' m (sA (sSave L) (aEnd (aAdd (lA L) s w u)))) ∨ (py3 (0 ≤ s ∧ s < 6) ((1 ≤ w ∧ w ≤ 99) ∧ (-1 ≤ u ∧ u ≤ 9)) (aW (lA L) < 200 ∧ aB (lA L) < 400) (mI h' m 3) ∧ v = 0 ∧ ML h' m L))) xNo := by
  refine xCt_of (ini := false) (by decide +kernel) (Nat.le_of_ble_eq_true rfl) (fun q => absurd q (by decide)) ?_
  generalize hPR : (fun q h' => FM h h' m ∧ ∃ v, q = some (vi v) ∧ ((((0 ≤ s ∧ s < 6) ∧ ((1 ≤ w ∧ w ≤ 99) ∧ (-1 ≤ u ∧ u ≤ 9)) ∧ (aW (lA L) < 200 ∧ aB (lA L) < 400)) ∧ mI h' m 3 = 0 ∧ v = aW (lA L) ∧ ML h' m (sA (sSave L) (aEnd (aAdd (lA L) s w u)))) ∨ (py3 (0 ≤ s ∧ s < 6) ((1 ≤ w ∧ w ≤ 99) ∧ (-1 ≤ u ∧ u ≤ 9)) (aW (lA L) < 200 ∧ aB (lA L) < 400) (mI h' m 3) ∧ v = 0 ∧ ML h' m L)) : Option xV → xM → Prop) = PR
  have K0 : X Ω RX6 cX6_say 4 (some .int) false rm_X6_say PR xNo 0 0 0 [some (rf m), some (vi s), some (vi w), some (vi u)] [] h := ?_
  exact K0
  have hz := hL.2.2.1
  have hO := hL.2.2.2.2.2.2.2.2
  have hz6 := hO.2.2.1
  have hA : aOK (lA L) := hO.2.1.1
  have hM := hL.2.1
  obtain ⟨mSt, mB, mW, mWl, mWo, mCo, mHe⟩ := id hM
  obtain ⟨okB, okN, okWl, okS, okW, okM, okC, okH⟩ := id hA
  have hTn := hL.2.2.2.2.2.2.1
  have hTr := hO.2.2.2.2.1
  have hKf := hL.2.2.2.2.1
  have hKb := hO.2.2.2.1
  obtain ⟨irs1, irs2⟩ := irs
  obtain ⟨irw1, irw2⟩ := irw
  obtain ⟨iru1, iru2⟩ := iru
  refine X.aload_n (i := 0) rfl rfl dX6_say_0 (pc' := 1) rfl ?_
  refine X.iload_n (i := 1) rfl rfl dX6_say_1 (pc' := 2) rfl ?_
  refine X.callS (rm := rm_X6_isSeat) (As := [vi s]) (st := [rf m]) dX6_say_2 ck_X6_52 rfl rfl ⟨Nat.le_of_ble_eq_true rfl, Nat.le_of_ble_eq_true rfl⟩ (Nat.le_of_ble_eq_true rfl) (Nat.le_of_ble_eq_true rfl) (Nat.le_of_ble_eq_true rfl) (pc' := 5) rfl (k_X6_isSeat ⟨by omega, by omega⟩) (fun q1 hq1 eq1 => ?_) (fun _ _ x1 => x1.elim)
  obtain ⟨rfl, r2, rfl, hr2⟩ := eq1
  refine X.iload_n (i := 2) rfl rfl dX6_say_5 (pc' := 6) rfl ?_
  refine X.iconst dX6_say_6 (pc' := 7) rfl ?_
  refine X.bipush (by decide +kernel) dX6_say_7 (pc' := 9) rfl ?_
  refine X.callS (rm := rm_X6_in) (As := [vi w, vi 1, vi 99]) (st := [vi r2, rf m]) dX6_say_9 ck_X6_32 rfl rfl ⟨Nat.le_of_ble_eq_true rfl, Nat.le_of_ble_eq_true rfl⟩ (Nat.le_of_ble_eq_true rfl) (Nat.le_of_ble_eq_true rfl) (Nat.le_of_ble_eq_true rfl) (pc' := 12) rfl (k_X6_in ⟨by omega, by omega⟩ ⟨by omega, by omega⟩ ⟨by omega, by omega⟩) (fun q3 hq3 eq3 => ?_) (fun _ _ x1 => x1.elim)
  obtain ⟨rfl, r4, rfl, hr4⟩ := eq3
  refine X.if_eq (tgt := 29) dX6_say_12 ⟨by omega, by omega⟩ (by decide) (pc' := 15) rfl (fun c12 => ?_) (fun c12 => ?_)
  · refine X.iconst dX6_say_29 (pc' := 30) rfl ?_
    refine X.aload_n (i := 0) rfl rfl dX6_say_30 (pc' := 31) rfl ?_
    refine X.callV (ci := 6) (a := m) (rm := rm_X6_canSpeak) (As := []) (st := [vi 0, vi r2, rf m]) dX6_say_31 ck_X6_56 rfl (by decide) hL.1.1 rfl rfl ⟨Nat.le_of_ble_eq_true rfl, Nat.le_of_ble_eq_true rfl⟩ (Nat.le_of_ble_eq_true rfl) (Nat.le_of_ble_eq_true rfl) (Nat.le_of_ble_eq_true rfl) (pc' := 34) rfl (k_X6_canSpeak hL.1 hM hA) (fun q5 hq5 eq5 => ?_) (fun _ _ x1 => x1.elim)
    obtain ⟨rfl, r6, rfl, hr6⟩ := eq5
    refine X.callV (ci := 6) (a := m) (rm := rm_X6_goes) (As := [vi r2, vi 0, vi r6]) (st := []) dX6_say_34 ck_X6_60 rfl (by decide) hL.1.1 rfl rfl ⟨Nat.le_of_ble_eq_true rfl, Nat.le_of_ble_eq_true rfl⟩ (Nat.le_of_ble_eq_true rfl) (Nat.le_of_ble_eq_true rfl) (Nat.le_of_ble_eq_true rfl) (pc' := 37) rfl (k_X6_goes hL.1 (by omega) (by omega) (by omega)) (fun q7 hq7 eq7 => ?_) (fun _ _ x1 => x1.elim)
    obtain ⟨hG, r8, rfl, hr8⟩ := eq7
    have hM3 : mI hq7 m 3 = (if (r2 : Int) = 0 then 1 else if (0 : Int) = 0 then 2 else if (r6 : Int) = 0 then 3 else 0) := by rw [hG, mI_sI, if_pos ⟨rfl, rfl⟩]
    have hFq : FM h hq7 m := by rw [hG]; exact FM.rf.w ⟨by omega, by omega⟩
    have hL2 : ML hq7 m L := hL.th hFq (by rw [hG]; funext j; rw [mI_sI, if_neg (by omega)]) (by rw [hG]; funext j; rw [mI_sI, if_neg (by omega)]) (fun j z => by rw [hG, mI_sI, if_neg (by omega)])
    refine X.if_ne (tgt := 42) dX6_say_37 ⟨by omega, by omega⟩ (by decide) (pc' := 40) rfl (fun c37 => ?_) (fun c37 => ?_)
    · refine X.aload_n (i := 0) rfl rfl dX6_say_42 (pc' := 43) rfl ?_
      refine X.callV (ci := 6) (a := m) (rm := rm_X6_saves) (As := []) (st := []) dX6_say_43 ck_X6_64 rfl (by decide) hL2.1.1 rfl rfl ⟨Nat.le_of_ble_eq_true rfl, Nat.le_of_ble_eq_true rfl⟩ (Nat.le_of_ble_eq_true rfl) (Nat.le_of_ble_eq_true rfl) (Nat.le_of_ble_eq_true rfl) (pc' := 46) rfl (k_X6_saves hL2) (fun q9 hq9 eq9 => ?_) (fun _ _ x1 => x1.elim)
      obtain ⟨rfl, hL3, hG3⟩ := eq9
      have hM30 : mI hq9 m 3 = 0 := by rw [hG3.2.2.1 3 (by omega), hM3]; split <;> (try split) <;> (try split) <;> omega
      have mA3 : RM hq9 (m + 1) 0 (lA L) := hL3.2.1
      obtain ⟨nSt, nB, nW, nWl, nWo, nCo, nHe⟩ := id mA3
      refine X.aload_n (i := 0) rfl rfl dX6_say_46 (pc' := 47) rfl ?_
      refine X.iload_n (i := 1) rfl rfl dX6_say_47 (pc' := 48) rfl ?_
      refine X.iload_n (i := 2) rfl rfl dX6_say_48 (pc' := 49) rfl ?_
      refine X.iload_n (i := 3) rfl rfl dX6_say_49 (pc' := 50) rfl ?_
      refine X.callV (ci := 6) (a := m) (rm := rm_X6_speaks) (As := [vi s, vi w, vi u]) (st := []) dX6_say_50 ck_X6_67 rfl (by decide) hL3.1.1 rfl rfl ⟨Nat.le_of_ble_eq_true rfl, Nat.le_of_ble_eq_true rfl⟩ (Nat.le_of_ble_eq_true rfl) (Nat.le_of_ble_eq_true rfl) (Nat.le_of_ble_eq_true rfl) (pc' := 53) rfl (k_X6_speaks hL3.1 mA3 hA (by omega) (by omega) (by omega) hO.1.1 (by omega) (by omega)) (fun q10 hq10 eq10 => ?_) (fun _ _ x1 => x1.elim)
      obtain ⟨rfl, hME, hFE⟩ := eq10
      have hL4 := hL3.now hFE hME (aEnd_ok (aAdd_ok hA hO.1.1 (by omega) ⟨by omega, by omega⟩ ⟨by omega, by omega⟩ ⟨by omega, by omega⟩) (show aB (lA L) < 400 by omega)) (aEnd_past (aAdd_ok hA hO.1.1 (by omega) ⟨by omega, by omega⟩ ⟨by omega, by omega⟩ ⟨by omega, by omega⟩))
      have hM40 : mI hq10 m 3 = 0 := by rw [hFE.2.1 m (by omega)]; exact hM30
      refine X.iret dX6_say_53 (Or.inl rfl) (Nat.le_of_ble_eq_true rfl) (Nat.le_of_ble_eq_true rfl) ?_
      subst hPR
      exact ⟨(hFq.tr hG3.1).tr hFE.1, _, rfl, Or.inl ⟨⟨by omega, by omega, by omega⟩, hM40, rfl, hL4⟩⟩
    · refine X.iconst dX6_say_40 (pc' := 41) rfl ?_
      refine X.iret dX6_say_41 (Or.inl rfl) (Nat.le_of_ble_eq_true rfl) (Nat.le_of_ble_eq_true rfl) ?_
      subst hPR
      refine ⟨hFq, _, rfl, Or.inr ⟨?_, rfl, hL2⟩⟩
      rw [hM3]
      unfold py3
      (try unfold stOK)
      split <;> (try split) <;> (try split) <;> omega
  · refine X.iload_n (i := 3) rfl rfl dX6_say_15 (pc' := 16) rfl ?_
    refine X.iconst dX6_say_16 (pc' := 17) rfl ?_
    refine X.bipush (by decide +kernel) dX6_say_17 (pc' := 19) rfl ?_
    refine X.callS (rm := rm_X6_in) (As := [vi u, vi ((-1)), vi 9]) (st := [vi r2, rf m]) dX6_say_19 ck_X6_32 rfl rfl ⟨Nat.le_of_ble_eq_true rfl, Nat.le_of_ble_eq_true rfl⟩ (Nat.le_of_ble_eq_true rfl) (Nat.le_of_ble_eq_true rfl) (Nat.le_of_ble_eq_true rfl) (pc' := 22) rfl (k_X6_in ⟨by omega, by omega⟩ ⟨by omega, by omega⟩ ⟨by omega, by omega⟩) (fun q11 hq11 eq11 => ?_) (fun _ _ x1 => x1.elim)
    obtain ⟨rfl, r12, rfl, hr12⟩ := eq11
    refine X.if_eq (tgt := 29) dX6_say_22 ⟨by omega, by omega⟩ (by decide) (pc' := 25) rfl (fun c22 => ?_) (fun c22 => ?_)
    · refine X.iconst dX6_say_29 (pc' := 30) rfl ?_
      refine X.aload_n (i := 0) rfl rfl dX6_say_30 (pc' := 31) rfl ?_
      refine X.callV (ci := 6) (a := m) (rm := rm_X6_canSpeak) (As := []) (st := [vi 0, vi r2, rf m]) dX6_say_31 ck_X6_56 rfl (by decide) hL.1.1 rfl rfl ⟨Nat.le_of_ble_eq_true rfl, Nat.le_of_ble_eq_true rfl⟩ (Nat.le_of_ble_eq_true rfl) (Nat.le_of_ble_eq_true rfl) (Nat.le_of_ble_eq_true rfl) (pc' := 34) rfl (k_X6_canSpeak hL.1 hM hA) (fun q13 hq13 eq13 => ?_) (fun _ _ x1 => x1.elim)
      obtain ⟨rfl, r14, rfl, hr14⟩ := eq13
      refine X.callV (ci := 6) (a := m) (rm := rm_X6_goes) (As := [vi r2, vi 0, vi r14]) (st := []) dX6_say_34 ck_X6_60 rfl (by decide) hL.1.1 rfl rfl ⟨Nat.le_of_ble_eq_true rfl, Nat.le_of_ble_eq_true rfl⟩ (Nat.le_of_ble_eq_true rfl) (Nat.le_of_ble_eq_true rfl) (Nat.le_of_ble_eq_true rfl) (pc' := 37) rfl (k_X6_goes hL.1 (by omega) (by omega) (by omega)) (fun q15 hq15 eq15 => ?_) (fun _ _ x1 => x1.elim)
      obtain ⟨hG, r16, rfl, hr16⟩ := eq15
      have hM3 : mI hq15 m 3 = (if (r2 : Int) = 0 then 1 else if (0 : Int) = 0 then 2 else if (r14 : Int) = 0 then 3 else 0) := by rw [hG, mI_sI, if_pos ⟨rfl, rfl⟩]
      have hFq : FM h hq15 m := by rw [hG]; exact FM.rf.w ⟨by omega, by omega⟩
      have hL2 : ML hq15 m L := hL.th hFq (by rw [hG]; funext j; rw [mI_sI, if_neg (by omega)]) (by rw [hG]; funext j; rw [mI_sI, if_neg (by omega)]) (fun j z => by rw [hG, mI_sI, if_neg (by omega)])
      refine X.if_ne (tgt := 42) dX6_say_37 ⟨by omega, by omega⟩ (by decide) (pc' := 40) rfl (fun c37 => ?_) (fun c37 => ?_)
      · refine X.aload_n (i := 0) rfl rfl dX6_say_42 (pc' := 43) rfl ?_
        refine X.callV (ci := 6) (a := m) (rm := rm_X6_saves) (As := []) (st := []) dX6_say_43 ck_X6_64 rfl (by decide) hL2.1.1 rfl rfl ⟨Nat.le_of_ble_eq_true rfl, Nat.le_of_ble_eq_true rfl⟩ (Nat.le_of_ble_eq_true rfl) (Nat.le_of_ble_eq_true rfl) (Nat.le_of_ble_eq_true rfl) (pc' := 46) rfl (k_X6_saves hL2) (fun q17 hq17 eq17 => ?_) (fun _ _ x1 => x1.elim)
        obtain ⟨rfl, hL3, hG3⟩ := eq17
        have hM30 : mI hq17 m 3 = 0 := by rw [hG3.2.2.1 3 (by omega), hM3]; split <;> (try split) <;> (try split) <;> omega
        have mA3 : RM hq17 (m + 1) 0 (lA L) := hL3.2.1
        obtain ⟨nSt, nB, nW, nWl, nWo, nCo, nHe⟩ := id mA3
        refine X.aload_n (i := 0) rfl rfl dX6_say_46 (pc' := 47) rfl ?_
        refine X.iload_n (i := 1) rfl rfl dX6_say_47 (pc' := 48) rfl ?_
        refine X.iload_n (i := 2) rfl rfl dX6_say_48 (pc' := 49) rfl ?_
        refine X.iload_n (i := 3) rfl rfl dX6_say_49 (pc' := 50) rfl ?_
        refine X.callV (ci := 6) (a := m) (rm := rm_X6_speaks) (As := [vi s, vi w, vi u]) (st := []) dX6_say_50 ck_X6_67 rfl (by decide) hL3.1.1 rfl rfl ⟨Nat.le_of_ble_eq_true rfl, Nat.le_of_ble_eq_true rfl⟩ (Nat.le_of_ble_eq_true rfl) (Nat.le_of_ble_eq_true rfl) (Nat.le_of_ble_eq_true rfl) (pc' := 53) rfl (k_X6_speaks hL3.1 mA3 hA (by omega) (by omega) (by omega) hO.1.1 (by omega) (by omega)) (fun q18 hq18 eq18 => ?_) (fun _ _ x1 => x1.elim)
        obtain ⟨rfl, hME, hFE⟩ := eq18
        have hL4 := hL3.now hFE hME (aEnd_ok (aAdd_ok hA hO.1.1 (by omega) ⟨by omega, by omega⟩ ⟨by omega, by omega⟩ ⟨by omega, by omega⟩) (show aB (lA L) < 400 by omega)) (aEnd_past (aAdd_ok hA hO.1.1 (by omega) ⟨by omega, by omega⟩ ⟨by omega, by omega⟩ ⟨by omega, by omega⟩))
        have hM40 : mI hq18 m 3 = 0 := by rw [hFE.2.1 m (by omega)]; exact hM30
        refine X.iret dX6_say_53 (Or.inl rfl) (Nat.le_of_ble_eq_true rfl) (Nat.le_of_ble_eq_true rfl) ?_
        subst hPR
        exact ⟨(hFq.tr hG3.1).tr hFE.1, _, rfl, Or.inl ⟨⟨by omega, by omega, by omega⟩, hM40, rfl, hL4⟩⟩
      · refine X.iconst dX6_say_40 (pc' := 41) rfl ?_
        refine X.iret dX6_say_41 (Or.inl rfl) (Nat.le_of_ble_eq_true rfl) (Nat.le_of_ble_eq_true rfl) ?_
        subst hPR
        refine ⟨hFq, _, rfl, Or.inr ⟨?_, rfl, hL2⟩⟩
        rw [hM3]
        unfold py3
        (try unfold stOK)
        split <;> (try split) <;> (try split) <;> omega
    · refine X.iconst dX6_say_25 (pc' := 26) rfl ?_
      refine X.goto (tgt := 30) dX6_say_26 (by decide) ?_
      refine X.aload_n (i := 0) rfl rfl dX6_say_30 (pc' := 31) rfl ?_
      refine X.callV (ci := 6) (a := m) (rm := rm_X6_canSpeak) (As := []) (st := [vi 1, vi r2, rf m]) dX6_say_31 ck_X6_56 rfl (by decide) hL.1.1 rfl rfl ⟨Nat.le_of_ble_eq_true rfl, Nat.le_of_ble_eq_true rfl⟩ (Nat.le_of_ble_eq_true rfl) (Nat.le_of_ble_eq_true rfl) (Nat.le_of_ble_eq_true rfl) (pc' := 34) rfl (k_X6_canSpeak hL.1 hM hA) (fun q19 hq19 eq19 => ?_) (fun _ _ x1 => x1.elim)
      obtain ⟨rfl, r20, rfl, hr20⟩ := eq19
      refine X.callV (ci := 6) (a := m) (rm := rm_X6_goes) (As := [vi r2, vi 1, vi r20]) (st := []) dX6_say_34 ck_X6_60 rfl (by decide) hL.1.1 rfl rfl ⟨Nat.le_of_ble_eq_true rfl, Nat.le_of_ble_eq_true rfl⟩ (Nat.le_of_ble_eq_true rfl) (Nat.le_of_ble_eq_true rfl) (Nat.le_of_ble_eq_true rfl) (pc' := 37) rfl (k_X6_goes hL.1 (by omega) (by omega) (by omega)) (fun q21 hq21 eq21 => ?_) (fun _ _ x1 => x1.elim)
      obtain ⟨hG, r22, rfl, hr22⟩ := eq21
      have hM3 : mI hq21 m 3 = (if (r2 : Int) = 0 then 1 else if (1 : Int) = 0 then 2 else if (r20 : Int) = 0 then 3 else 0) := by rw [hG, mI_sI, if_pos ⟨rfl, rfl⟩]
      have hFq : FM h hq21 m := by rw [hG]; exact FM.rf.w ⟨by omega, by omega⟩
      have hL2 : ML hq21 m L := hL.th hFq (by rw [hG]; funext j; rw [mI_sI, if_neg (by omega)]) (by rw [hG]; funext j; rw [mI_sI, if_neg (by omega)]) (fun j z => by rw [hG, mI_sI, if_neg (by omega)])
      refine X.if_ne (tgt := 42) dX6_say_37 ⟨by omega, by omega⟩ (by decide) (pc' := 40) rfl (fun c37 => ?_) (fun c37 => ?_)
      · refine X.aload_n (i := 0) rfl rfl dX6_say_42 (pc' := 43) rfl ?_
        refine X.callV (ci := 6) (a := m) (rm := rm_X6_saves) (As := []) (st := []) dX6_say_43 ck_X6_64 rfl (by decide) hL2.1.1 rfl rfl ⟨Nat.le_of_ble_eq_true rfl, Nat.le_of_ble_eq_true rfl⟩ (Nat.le_of_ble_eq_true rfl) (Nat.le_of_ble_eq_true rfl) (Nat.le_of_ble_eq_true rfl) (pc' := 46) rfl (k_X6_saves hL2) (fun q23 hq23 eq23 => ?_) (fun _ _ x1 => x1.elim)
        obtain ⟨rfl, hL3, hG3⟩ := eq23
        have hM30 : mI hq23 m 3 = 0 := by rw [hG3.2.2.1 3 (by omega), hM3]; split <;> (try split) <;> (try split) <;> omega
        have mA3 : RM hq23 (m + 1) 0 (lA L) := hL3.2.1
        obtain ⟨nSt, nB, nW, nWl, nWo, nCo, nHe⟩ := id mA3
        refine X.aload_n (i := 0) rfl rfl dX6_say_46 (pc' := 47) rfl ?_
        refine X.iload_n (i := 1) rfl rfl dX6_say_47 (pc' := 48) rfl ?_
        refine X.iload_n (i := 2) rfl rfl dX6_say_48 (pc' := 49) rfl ?_
        refine X.iload_n (i := 3) rfl rfl dX6_say_49 (pc' := 50) rfl ?_
        refine X.callV (ci := 6) (a := m) (rm := rm_X6_speaks) (As := [vi s, vi w, vi u]) (st := []) dX6_say_50 ck_X6_67 rfl (by decide) hL3.1.1 rfl rfl ⟨Nat.le_of_ble_eq_true rfl, Nat.le_of_ble_eq_true rfl⟩ (Nat.le_of_ble_eq_true rfl) (Nat.le_of_ble_eq_true rfl) (Nat.le_of_ble_eq_true rfl) (pc' := 53) rfl (k_X6_speaks hL3.1 mA3 hA (by omega) (by omega) (by omega) hO.1.1 (by omega) (by omega)) (fun q24 hq24 eq24 => ?_) (fun _ _ x1 => x1.elim)
        obtain ⟨rfl, hME, hFE⟩ := eq24
        have hL4 := hL3.now hFE hME (aEnd_ok (aAdd_ok hA hO.1.1 (by omega) ⟨by omega, by omega⟩ ⟨by omega, by omega⟩ ⟨by omega, by omega⟩) (show aB (lA L) < 400 by omega)) (aEnd_past (aAdd_ok hA hO.1.1 (by omega) ⟨by omega, by omega⟩ ⟨by omega, by omega⟩ ⟨by omega, by omega⟩))
        have hM40 : mI hq24 m 3 = 0 := by rw [hFE.2.1 m (by omega)]; exact hM30
        refine X.iret dX6_say_53 (Or.inl rfl) (Nat.le_of_ble_eq_true rfl) (Nat.le_of_ble_eq_true rfl) ?_
        subst hPR
        exact ⟨(hFq.tr hG3.1).tr hFE.1, _, rfl, Or.inl ⟨⟨by omega, by omega, by omega⟩, hM40, rfl, hL4⟩⟩
      · refine X.iconst dX6_say_40 (pc' := 41) rfl ?_
        refine X.iret dX6_say_41 (Or.inl rfl) (Nat.le_of_ble_eq_true rfl) (Nat.le_of_ble_eq_true rfl) ?_
        subst hPR
        refine ⟨hFq, _, rfl, Or.inr ⟨?_, rfl, hL2⟩⟩
        rw [hM3]
        unfold py3
        (try unfold stOK)
        split <;> (try split) <;> (try split) <;> omega
set_option maxHeartbeats 4000000 in
set_option maxRecDepth 100000 in
theorem k_X6_pass {Ω : xO} {h : xM} {m : Nat} {L : lS} {n : Int} (hL : ML h m L) (irn : inR n) : xCt Ω yX6_pass cX6_pass 2 (some .int) rm_X6_pass [rf m, vi n] h (fun q h' => FM h h' m ∧ ∃ v, q = some (vi v) ∧ ((((1 ≤ n ∧ n ≤ 50) ∧ (aB (lA L) + n ≤ 400) ∧ (True)) ∧ mI h' m 3 = 0 ∧ v = aB (lA L) + n ∧ ML h' m (sA (sSave L) (aRest (lA L) n.toNat))) ∨ (py3 (1 ≤ n ∧ n ≤ 50) (aB (lA L) + n ≤ 400) (True) (mI h' m 3) ∧ v = 0 ∧ ML h' m L))) xNo := by
  refine xCt_of (ini := false) (by decide +kernel) (Nat.le_of_ble_eq_true rfl) (fun q => absurd q (by decide)) ?_
  generalize hPR : (fun q h' => FM h h' m ∧ ∃ v, q = some (vi v) ∧ ((((1 ≤ n ∧ n ≤ 50) ∧ (aB (lA L) + n ≤ 400) ∧ (True)) ∧ mI h' m 3 = 0 ∧ v = aB (lA L) + n ∧ ML h' m (sA (sSave L) (aRest (lA L) n.toNat))) ∨ (py3 (1 ≤ n ∧ n ≤ 50) (aB (lA L) + n ≤ 400) (True) (mI h' m 3) ∧ v = 0 ∧ ML h' m L)) : Option xV → xM → Prop) = PR
  have K0 : X Ω RX6 cX6_pass 2 (some .int) false rm_X6_pass PR xNo 0 0 0 [some (rf m), some (vi n)] [] h := ?_
  exact K0
  have hz := hL.2.2.1
  have hO := hL.2.2.2.2.2.2.2.2
  have hz6 := hO.2.2.1
  have hA : aOK (lA L) := hO.2.1.1
  have hM := hL.2.1
  obtain ⟨mSt, mB, mW, mWl, mWo, mCo, mHe⟩ := id hM
  obtain ⟨okB, okN, okWl, okS, okW, okM, okC, okH⟩ := id hA
  have hTn := hL.2.2.2.2.2.2.1
  have hTr := hO.2.2.2.2.1
  have hKf := hL.2.2.2.2.1
  have hKb := hO.2.2.2.1
  obtain ⟨irn1, irn2⟩ := irn
  refine X.aload_n (i := 0) rfl rfl dX6_pass_0 (pc' := 1) rfl ?_
  refine X.iload_n (i := 1) rfl rfl dX6_pass_1 (pc' := 2) rfl ?_
  refine X.iconst dX6_pass_2 (pc' := 3) rfl ?_
  refine X.bipush (by decide +kernel) dX6_pass_3 (pc' := 5) rfl ?_
  refine X.callS (rm := rm_X6_in) (As := [vi n, vi 1, vi 50]) (st := [rf m]) dX6_pass_5 ck_X6_32 rfl rfl ⟨Nat.le_of_ble_eq_true rfl, Nat.le_of_ble_eq_true rfl⟩ (Nat.le_of_ble_eq_true rfl) (Nat.le_of_ble_eq_true rfl) (Nat.le_of_ble_eq_true rfl) (pc' := 8) rfl (k_X6_in ⟨by omega, by omega⟩ ⟨by omega, by omega⟩ ⟨by omega, by omega⟩) (fun q1 hq1 eq1 => ?_) (fun _ _ x1 => x1.elim)
  obtain ⟨rfl, r2, rfl, hr2⟩ := eq1
  refine X.iload_n (i := 1) rfl rfl dX6_pass_8 (pc' := 9) rfl ?_
  refine X.iconst dX6_pass_9 (pc' := 10) rfl ?_
  refine X.bipush (by decide +kernel) dX6_pass_10 (pc' := 12) rfl ?_
  refine X.callS (rm := rm_X6_in) (As := [vi n, vi 1, vi 50]) (st := [vi r2, rf m]) dX6_pass_12 ck_X6_32 rfl rfl ⟨Nat.le_of_ble_eq_true rfl, Nat.le_of_ble_eq_true rfl⟩ (Nat.le_of_ble_eq_true rfl) (Nat.le_of_ble_eq_true rfl) (Nat.le_of_ble_eq_true rfl) (pc' := 15) rfl (k_X6_in ⟨by omega, by omega⟩ ⟨by omega, by omega⟩ ⟨by omega, by omega⟩) (fun q3 hq3 eq3 => ?_) (fun _ _ x1 => x1.elim)
  obtain ⟨rfl, r4, rfl, hr4⟩ := eq3
  refine X.if_eq (tgt := 32) dX6_pass_15 ⟨by omega, by omega⟩ (by decide) (pc' := 18) rfl (fun c15 => ?_) (fun c15 => ?_)
  · refine X.iconst dX6_pass_32 (pc' := 33) rfl ?_
    refine X.goto (tgt := 37) dX6_pass_33 (by decide) ?_
    refine X.iconst dX6_pass_37 (pc' := 38) rfl ?_
    refine X.callV (ci := 6) (a := m) (rm := rm_X6_goes) (As := [vi r2, vi 1, vi 1]) (st := []) dX6_pass_38 ck_X6_60 rfl (by decide) hL.1.1 rfl rfl ⟨Nat.le_of_ble_eq_true rfl, Nat.le_of_ble_eq_true rfl⟩ (Nat.le_of_ble_eq_true rfl) (Nat.le_of_ble_eq_true rfl) (Nat.le_of_ble_eq_true rfl) (pc' := 41) rfl (k_X6_goes hL.1 (by omega) (by omega) (by omega)) (fun q5 hq5 eq5 => ?_) (fun _ _ x1 => x1.elim)
    obtain ⟨hG, r6, rfl, hr6⟩ := eq5
    have hM3 : mI hq5 m 3 = (if (r2 : Int) = 0 then 1 else if (1 : Int) = 0 then 2 else if (1 : Int) = 0 then 3 else 0) := by rw [hG, mI_sI, if_pos ⟨rfl, rfl⟩]
    have hFq : FM h hq5 m := by rw [hG]; exact FM.rf.w ⟨by omega, by omega⟩
    have hL2 : ML hq5 m L := hL.th hFq (by rw [hG]; funext j; rw [mI_sI, if_neg (by omega)]) (by rw [hG]; funext j; rw [mI_sI, if_neg (by omega)]) (fun j z => by rw [hG, mI_sI, if_neg (by omega)])
    refine X.if_ne (tgt := 46) dX6_pass_41 ⟨by omega, by omega⟩ (by decide) (pc' := 44) rfl (fun c41 => ?_) (fun c41 => ?_)
    · refine X.aload_n (i := 0) rfl rfl dX6_pass_46 (pc' := 47) rfl ?_
      refine X.callV (ci := 6) (a := m) (rm := rm_X6_saves) (As := []) (st := []) dX6_pass_47 ck_X6_64 rfl (by decide) hL2.1.1 rfl rfl ⟨Nat.le_of_ble_eq_true rfl, Nat.le_of_ble_eq_true rfl⟩ (Nat.le_of_ble_eq_true rfl) (Nat.le_of_ble_eq_true rfl) (Nat.le_of_ble_eq_true rfl) (pc' := 50) rfl (k_X6_saves hL2) (fun q7 hq7 eq7 => ?_) (fun _ _ x1 => x1.elim)
      obtain ⟨rfl, hL3, hG3⟩ := eq7
      have hM30 : mI hq7 m 3 = 0 := by rw [hG3.2.2.1 3 (by omega), hM3]; split <;> (try split) <;> (try split) <;> omega
      have mA3 : RM hq7 (m + 1) 0 (lA L) := hL3.2.1
      obtain ⟨nSt, nB, nW, nWl, nWo, nCo, nHe⟩ := id mA3
      refine X.aload_n (i := 0) rfl rfl dX6_pass_50 (pc' := 51) rfl ?_
      refine X.iload_n (i := 1) rfl rfl dX6_pass_51 (pc' := 52) rfl ?_
      refine X.callV (ci := 6) (a := m) (rm := rm_X6_passes) (As := [vi n]) (st := []) dX6_pass_52 ck_X6_71 rfl (by decide) hL3.1.1 rfl rfl ⟨Nat.le_of_ble_eq_true rfl, Nat.le_of_ble_eq_true rfl⟩ (Nat.le_of_ble_eq_true rfl) (Nat.le_of_ble_eq_true rfl) (Nat.le_of_ble_eq_true rfl) (pc' := 55) rfl (k_X6_passes hL3.1 mA3 hA (by omega) hO.1.1) (fun q8 hq8 eq8 => ?_) (fun _ _ x1 => x1.elim)
      obtain ⟨rfl, hME, hFE⟩ := eq8
      have hL4 := hL3.now hFE hME ((aPast_rest hA hO.1.1 n.toNat (by omega)).2) ((aPast_rest hA hO.1.1 n.toNat (by omega)).1)
      have hM40 : mI hq8 m 3 = 0 := by rw [hFE.2.1 m (by omega)]; exact hM30
      refine X.aload_n (i := 0) rfl rfl dX6_pass_55 (pc' := 56) rfl ?_
      refine X.getR fk_X6_8 xcl_6 dX6_pass_56 hL4.1.1 hL4.1.2.1 (pc' := 59) rfl ?_
      refine X.iconst dX6_pass_59 (pc' := 60) rfl ?_
      refine X.iald (x := aB (aRest (lA L) n.toNat)) dX6_pass_60 hL4.1.2.2.1 (by omega) (by omega) ⟨by omega, by omega⟩ (mI_at hME.2.1 (by omega)) (pc' := 61) rfl (fun r9 => ?_)
      obtain ⟨r9a, r9b⟩ := r9
      refine X.iret dX6_pass_61 (Or.inl rfl) (Nat.le_of_ble_eq_true rfl) (Nat.le_of_ble_eq_true rfl) ?_
      subst hPR
      have hbr := aB_rest (lA L) n.toNat
      exact ⟨(hFq.tr hG3.1).tr hFE.1, _, rfl, Or.inl ⟨⟨by omega, by omega, trivial⟩, hM40, by omega, hL4⟩⟩
    · refine X.iconst dX6_pass_44 (pc' := 45) rfl ?_
      refine X.iret dX6_pass_45 (Or.inl rfl) (Nat.le_of_ble_eq_true rfl) (Nat.le_of_ble_eq_true rfl) ?_
      subst hPR
      refine ⟨hFq, _, rfl, Or.inr ⟨?_, rfl, hL2⟩⟩
      rw [hM3]
      unfold py3
      (try unfold stOK)
      split <;> (try split) <;> (try split) <;> omega
  · refine X.aload_n (i := 0) rfl rfl dX6_pass_18 (pc' := 19) rfl ?_
    refine X.getR fk_X6_8 xcl_6 dX6_pass_19 hL.1.1 hL.1.2.1 (pc' := 22) rfl ?_
    refine X.iconst dX6_pass_22 (pc' := 23) rfl ?_
    refine X.iald (x := aB (lA L)) dX6_pass_23 hL.1.2.2.1 (by omega) (by omega) ⟨by omega, by omega⟩ (mI_at mB (by omega)) (pc' := 24) rfl (fun r10 => ?_)
    obtain ⟨r10a, r10b⟩ := r10
    refine X.iload_n (i := 1) rfl rfl dX6_pass_24 (pc' := 25) rfl ?_
    refine X.iadd dX6_pass_25 (pc' := 26) rfl ?_
    refine X.sipush (by decide +kernel) dX6_pass_26 (pc' := 29) rfl ?_
    refine X.icmp_gt (tgt := 36) dX6_pass_29 ⟨by omega, by omega⟩ ⟨by omega, by omega⟩ (by decide) (pc' := 32) rfl (fun c29 => ?_) (fun c29 => ?_)
    · refine X.iconst dX6_pass_36 (pc' := 37) rfl ?_
      refine X.iconst dX6_pass_37 (pc' := 38) rfl ?_
      refine X.callV (ci := 6) (a := m) (rm := rm_X6_goes) (As := [vi r2, vi 0, vi 1]) (st := []) dX6_pass_38 ck_X6_60 rfl (by decide) hL.1.1 rfl rfl ⟨Nat.le_of_ble_eq_true rfl, Nat.le_of_ble_eq_true rfl⟩ (Nat.le_of_ble_eq_true rfl) (Nat.le_of_ble_eq_true rfl) (Nat.le_of_ble_eq_true rfl) (pc' := 41) rfl (k_X6_goes hL.1 (by omega) (by omega) (by omega)) (fun q11 hq11 eq11 => ?_) (fun _ _ x1 => x1.elim)
      obtain ⟨hG, r12, rfl, hr12⟩ := eq11
      have hM3 : mI hq11 m 3 = (if (r2 : Int) = 0 then 1 else if (0 : Int) = 0 then 2 else if (1 : Int) = 0 then 3 else 0) := by rw [hG, mI_sI, if_pos ⟨rfl, rfl⟩]
      have hFq : FM h hq11 m := by rw [hG]; exact FM.rf.w ⟨by omega, by omega⟩
      have hL2 : ML hq11 m L := hL.th hFq (by rw [hG]; funext j; rw [mI_sI, if_neg (by omega)]) (by rw [hG]; funext j; rw [mI_sI, if_neg (by omega)]) (fun j z => by rw [hG, mI_sI, if_neg (by omega)])
      refine X.if_ne (tgt := 46) dX6_pass_41 ⟨by omega, by omega⟩ (by decide) (pc' := 44) rfl (fun c41 => ?_) (fun c41 => ?_)
      · refine X.aload_n (i := 0) rfl rfl dX6_pass_46 (pc' := 47) rfl ?_
        refine X.callV (ci := 6) (a := m) (rm := rm_X6_saves) (As := []) (st := []) dX6_pass_47 ck_X6_64 rfl (by decide) hL2.1.1 rfl rfl ⟨Nat.le_of_ble_eq_true rfl, Nat.le_of_ble_eq_true rfl⟩ (Nat.le_of_ble_eq_true rfl) (Nat.le_of_ble_eq_true rfl) (Nat.le_of_ble_eq_true rfl) (pc' := 50) rfl (k_X6_saves hL2) (fun q13 hq13 eq13 => ?_) (fun _ _ x1 => x1.elim)
        obtain ⟨rfl, hL3, hG3⟩ := eq13
        have hM30 : mI hq13 m 3 = 0 := by rw [hG3.2.2.1 3 (by omega), hM3]; split <;> (try split) <;> (try split) <;> omega
        have mA3 : RM hq13 (m + 1) 0 (lA L) := hL3.2.1
        obtain ⟨nSt, nB, nW, nWl, nWo, nCo, nHe⟩ := id mA3
        refine X.aload_n (i := 0) rfl rfl dX6_pass_50 (pc' := 51) rfl ?_
        refine X.iload_n (i := 1) rfl rfl dX6_pass_51 (pc' := 52) rfl ?_
        refine X.callV (ci := 6) (a := m) (rm := rm_X6_passes) (As := [vi n]) (st := []) dX6_pass_52 ck_X6_71 rfl (by decide) hL3.1.1 rfl rfl ⟨Nat.le_of_ble_eq_true rfl, Nat.le_of_ble_eq_true rfl⟩ (Nat.le_of_ble_eq_true rfl) (Nat.le_of_ble_eq_true rfl) (Nat.le_of_ble_eq_true rfl) (pc' := 55) rfl (k_X6_passes hL3.1 mA3 hA (by omega) hO.1.1) (fun q14 hq14 eq14 => ?_) (fun _ _ x1 => x1.elim)
        obtain ⟨rfl, hME, hFE⟩ := eq14
        have hL4 := hL3.now hFE hME ((aPast_rest hA hO.1.1 n.toNat (by omega)).2) ((aPast_rest hA hO.1.1 n.toNat (by omega)).1)
        have hM40 : mI hq14 m 3 = 0 := by rw [hFE.2.1 m (by omega)]; exact hM30
        refine X.aload_n (i := 0) rfl rfl dX6_pass_55 (pc' := 56) rfl ?_
        refine X.getR fk_X6_8 xcl_6 dX6_pass_56 hL4.1.1 hL4.1.2.1 (pc' := 59) rfl ?_
        refine X.iconst dX6_pass_59 (pc' := 60) rfl ?_
        refine X.iald (x := aB (aRest (lA L) n.toNat)) dX6_pass_60 hL4.1.2.2.1 (by omega) (by omega) ⟨by omega, by omega⟩ (mI_at hME.2.1 (by omega)) (pc' := 61) rfl (fun r15 => ?_)
        obtain ⟨r15a, r15b⟩ := r15
        refine X.iret dX6_pass_61 (Or.inl rfl) (Nat.le_of_ble_eq_true rfl) (Nat.le_of_ble_eq_true rfl) ?_
        subst hPR
        have hbr := aB_rest (lA L) n.toNat
        exact ⟨(hFq.tr hG3.1).tr hFE.1, _, rfl, Or.inl ⟨⟨by omega, by omega, trivial⟩, hM40, by omega, hL4⟩⟩
      · refine X.iconst dX6_pass_44 (pc' := 45) rfl ?_
        refine X.iret dX6_pass_45 (Or.inl rfl) (Nat.le_of_ble_eq_true rfl) (Nat.le_of_ble_eq_true rfl) ?_
        subst hPR
        refine ⟨hFq, _, rfl, Or.inr ⟨?_, rfl, hL2⟩⟩
        rw [hM3]
        unfold py3
        (try unfold stOK)
        split <;> (try split) <;> (try split) <;> omega
    · refine X.iconst dX6_pass_32 (pc' := 33) rfl ?_
      refine X.goto (tgt := 37) dX6_pass_33 (by decide) ?_
      refine X.iconst dX6_pass_37 (pc' := 38) rfl ?_
      refine X.callV (ci := 6) (a := m) (rm := rm_X6_goes) (As := [vi r2, vi 1, vi 1]) (st := []) dX6_pass_38 ck_X6_60 rfl (by decide) hL.1.1 rfl rfl ⟨Nat.le_of_ble_eq_true rfl, Nat.le_of_ble_eq_true rfl⟩ (Nat.le_of_ble_eq_true rfl) (Nat.le_of_ble_eq_true rfl) (Nat.le_of_ble_eq_true rfl) (pc' := 41) rfl (k_X6_goes hL.1 (by omega) (by omega) (by omega)) (fun q16 hq16 eq16 => ?_) (fun _ _ x1 => x1.elim)
      obtain ⟨hG, r17, rfl, hr17⟩ := eq16
      have hM3 : mI hq16 m 3 = (if (r2 : Int) = 0 then 1 else if (1 : Int) = 0 then 2 else if (1 : Int) = 0 then 3 else 0) := by rw [hG, mI_sI, if_pos ⟨rfl, rfl⟩]
      have hFq : FM h hq16 m := by rw [hG]; exact FM.rf.w ⟨by omega, by omega⟩
      have hL2 : ML hq16 m L := hL.th hFq (by rw [hG]; funext j; rw [mI_sI, if_neg (by omega)]) (by rw [hG]; funext j; rw [mI_sI, if_neg (by omega)]) (fun j z => by rw [hG, mI_sI, if_neg (by omega)])
      refine X.if_ne (tgt := 46) dX6_pass_41 ⟨by omega, by omega⟩ (by decide) (pc' := 44) rfl (fun c41 => ?_) (fun c41 => ?_)
      · refine X.aload_n (i := 0) rfl rfl dX6_pass_46 (pc' := 47) rfl ?_
        refine X.callV (ci := 6) (a := m) (rm := rm_X6_saves) (As := []) (st := []) dX6_pass_47 ck_X6_64 rfl (by decide) hL2.1.1 rfl rfl ⟨Nat.le_of_ble_eq_true rfl, Nat.le_of_ble_eq_true rfl⟩ (Nat.le_of_ble_eq_true rfl) (Nat.le_of_ble_eq_true rfl) (Nat.le_of_ble_eq_true rfl) (pc' := 50) rfl (k_X6_saves hL2) (fun q18 hq18 eq18 => ?_) (fun _ _ x1 => x1.elim)
        obtain ⟨rfl, hL3, hG3⟩ := eq18
        have hM30 : mI hq18 m 3 = 0 := by rw [hG3.2.2.1 3 (by omega), hM3]; split <;> (try split) <;> (try split) <;> omega
        have mA3 : RM hq18 (m + 1) 0 (lA L) := hL3.2.1
        obtain ⟨nSt, nB, nW, nWl, nWo, nCo, nHe⟩ := id mA3
        refine X.aload_n (i := 0) rfl rfl dX6_pass_50 (pc' := 51) rfl ?_
        refine X.iload_n (i := 1) rfl rfl dX6_pass_51 (pc' := 52) rfl ?_
        refine X.callV (ci := 6) (a := m) (rm := rm_X6_passes) (As := [vi n]) (st := []) dX6_pass_52 ck_X6_71 rfl (by decide) hL3.1.1 rfl rfl ⟨Nat.le_of_ble_eq_true rfl, Nat.le_of_ble_eq_true rfl⟩ (Nat.le_of_ble_eq_true rfl) (Nat.le_of_ble_eq_true rfl) (Nat.le_of_ble_eq_true rfl) (pc' := 55) rfl (k_X6_passes hL3.1 mA3 hA (by omega) hO.1.1) (fun q19 hq19 eq19 => ?_) (fun _ _ x1 => x1.elim)
        obtain ⟨rfl, hME, hFE⟩ := eq19
        have hL4 := hL3.now hFE hME ((aPast_rest hA hO.1.1 n.toNat (by omega)).2) ((aPast_rest hA hO.1.1 n.toNat (by omega)).1)
        have hM40 : mI hq19 m 3 = 0 := by rw [hFE.2.1 m (by omega)]; exact hM30
        refine X.aload_n (i := 0) rfl rfl dX6_pass_55 (pc' := 56) rfl ?_
        refine X.getR fk_X6_8 xcl_6 dX6_pass_56 hL4.1.1 hL4.1.2.1 (pc' := 59) rfl ?_
        refine X.iconst dX6_pass_59 (pc' := 60) rfl ?_
        refine X.iald (x := aB (aRest (lA L) n.toNat)) dX6_pass_60 hL4.1.2.2.1 (by omega) (by omega) ⟨by omega, by omega⟩ (mI_at hME.2.1 (by omega)) (pc' := 61) rfl (fun r20 => ?_)
        obtain ⟨r20a, r20b⟩ := r20
        refine X.iret dX6_pass_61 (Or.inl rfl) (Nat.le_of_ble_eq_true rfl) (Nat.le_of_ble_eq_true rfl) ?_
        subst hPR
        have hbr := aB_rest (lA L) n.toNat
        exact ⟨(hFq.tr hG3.1).tr hFE.1, _, rfl, Or.inl ⟨⟨by omega, by omega, trivial⟩, hM40, by omega, hL4⟩⟩
      · refine X.iconst dX6_pass_44 (pc' := 45) rfl ?_
        refine X.iret dX6_pass_45 (Or.inl rfl) (Nat.le_of_ble_eq_true rfl) (Nat.le_of_ble_eq_true rfl) ?_
        subst hPR
        refine ⟨hFq, _, rfl, Or.inr ⟨?_, rfl, hL2⟩⟩
        rw [hM3]
        unfold py3
        (try unfold stOK)
        split <;> (try split) <;> (try split) <;> omega
