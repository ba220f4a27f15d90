set_option maxHeartbeats 4000000 in
set_option maxRecDepth 100000 in
theorem k_X6_said {Ω : xO} {h : xM} {m : Nat} {L : lS} {n w : Int} (hL : ML h m L) (irn : inR n) (irw : inR w) : xCt Ω yX6_said cX6_said 3 (some .int) rm_X6_said [rf m, vi n, vi w] h (fun q h' => FM h h' m ∧ ∃ v, q = some (vi v) ∧ ((((0 ≤ n ∧ (0 ≤ w ∧ w ≤ 5)) ∧ (True) ∧ (True)) ∧ mI h' m 3 = 0 ∧ v = (if n < aW (lA L) then oWd (lA L) n w else -1) ∧ ML h' m (L)) ∨ (py3 (0 ≤ n ∧ (0 ≤ w ∧ w ≤ 5)) (True) (True) (mI h' m 3) ∧ v = 0 ∧ ML h' m L))) xNo := by
  refine xCt_of (ini := false) (by decide +kernel) (Nat.le_of_ble_eq_true rfl) (fun q => absurd q (by decide)) ?_
  generalize hPR : (fun q h' => FM h h' m ∧ ∃ v, q = some (vi v) ∧ ((((0 ≤ n ∧ (0 ≤ w ∧ w ≤ 5)) ∧ (True) ∧ (True)) ∧ mI h' m 3 = 0 ∧ v = (if n < aW (lA L) then oWd (lA L) n w else -1) ∧ ML h' m (L)) ∨ (py3 (0 ≤ n ∧ (0 ≤ w ∧ w ≤ 5)) (True) (True) (mI h' m 3) ∧ v = 0 ∧ ML h' m L)) : Option xV → xM → Prop) = PR
  have K0 : X Ω RX6 cX6_said 3 (some .int) false rm_X6_said PR xNo 0 0 0 [some (rf m), some (vi n), some (vi w)] [] h := ?_
  exact K0
  have hz := hL.2.2.1
  have hO := hL.2.2.2.2.2.2.2.2
  have hz6 := hO.2.2.1
  have hA : aOK (lA L) := hO.2.1.1
  have hM := hL.2.1
  obtain ⟨mSt, mB, mW, mWl, mWo, mCo, mHe⟩ := id hM
  obtain ⟨okB, okN, okWl, okS, okW, okM, okC, okH⟩ := id hA
  have hTn := hL.2.2.2.2.2.2.1
  have hTr := hO.2.2.2.2.1
  have hKf := hL.2.2.2.2.1
  have hKb := hO.2.2.2.1
  obtain ⟨irn1, irn2⟩ := irn
  obtain ⟨irw1, irw2⟩ := irw
  refine X.aload_n (i := 0) rfl rfl dX6_said_0 (pc' := 1) rfl ?_
  refine X.iload_n (i := 1) rfl rfl dX6_said_1 (pc' := 2) rfl ?_
  refine X.if_lt (tgt := 18) dX6_said_2 ⟨by omega, by omega⟩ (by decide) (pc' := 5) rfl (fun c2 => ?_) (fun c2 => ?_)
  · refine X.iconst dX6_said_18 (pc' := 19) rfl ?_
    refine X.iconst dX6_said_19 (pc' := 20) rfl ?_
    refine X.iconst dX6_said_20 (pc' := 21) rfl ?_
    refine X.callV (ci := 6) (a := m) (rm := rm_X6_goes) (As := [vi 0, vi 1, vi 1]) (st := []) dX6_said_21 ck_X6_60 rfl (by decide) hL.1.1 rfl rfl ⟨Nat.le_of_ble_eq_true rfl, Nat.le_of_ble_eq_true rfl⟩ (Nat.le_of_ble_eq_true rfl) (Nat.le_of_ble_eq_true rfl) (Nat.le_of_ble_eq_true rfl) (pc' := 24) rfl (k_X6_goes hL.1 (by omega) (by omega) (by omega)) (fun q1 hq1 eq1 => ?_) (fun _ _ x1 => x1.elim)
    obtain ⟨hG, r2, rfl, hr2⟩ := eq1
    have hM3 : mI hq1 m 3 = (if (0 : Int) = 0 then 1 else if (1 : Int) = 0 then 2 else if (1 : Int) = 0 then 3 else 0) := by rw [hG, mI_sI, if_pos ⟨rfl, rfl⟩]
    have hFq : FM h hq1 m := by rw [hG]; exact FM.rf.w ⟨by omega, by omega⟩
    have hL2 : ML hq1 m L := hL.th hFq (by rw [hG]; funext j; rw [mI_sI, if_neg (by omega)]) (by rw [hG]; funext j; rw [mI_sI, if_neg (by omega)]) (fun j z => by rw [hG, mI_sI, if_neg (by omega)])
    refine X.if_ne (tgt := 29) dX6_said_24 ⟨by omega, by omega⟩ (by decide) (pc' := 27) rfl (fun c24 => ?_) (fun c24 => ?_)
    · refine X.aload_n (i := 0) rfl rfl dX6_said_29 (pc' := 30) rfl ?_
      refine X.iload_n (i := 1) rfl rfl dX6_said_30 (pc' := 31) rfl ?_
      refine X.iload_n (i := 2) rfl rfl dX6_said_31 (pc' := 32) rfl ?_
      refine X.callV (ci := 6) (a := m) (rm := rm_X6_ofWord) (As := [vi n, vi w]) (st := []) dX6_said_32 ck_X6_129 rfl (by decide) hL2.1.1 rfl rfl ⟨Nat.le_of_ble_eq_true rfl, Nat.le_of_ble_eq_true rfl⟩ (Nat.le_of_ble_eq_true rfl) (Nat.le_of_ble_eq_true rfl) (Nat.le_of_ble_eq_true rfl) (pc' := 35) rfl (k_X6_ofWord hL2.1 hL2.2.1 hA ⟨by omega, by omega⟩ ⟨by omega, by omega⟩) (fun q3 hq3 eq3 => ?_) (fun _ _ x1 => x1.elim)
      obtain ⟨rfl, r4, rfl, hr4⟩ := eq3
      refine X.iret dX6_said_35 (Or.inl rfl) (Nat.le_of_ble_eq_true rfl) (Nat.le_of_ble_eq_true rfl) ?_
      subst hPR
      exact ⟨hFq, _, rfl, Or.inl ⟨⟨by first | trivial | omega, by first | trivial | omega, by first | trivial | omega⟩, by rw [hM3]; split <;> (try split) <;> (try split) <;> omega, hr4, hL2⟩⟩
    · refine X.iconst dX6_said_27 (pc' := 28) rfl ?_
      refine X.iret dX6_said_28 (Or.inl rfl) (Nat.le_of_ble_eq_true rfl) (Nat.le_of_ble_eq_true rfl) ?_
      subst hPR
      refine ⟨hFq, _, rfl, Or.inr ⟨?_, rfl, hL2⟩⟩
      rw [hM3]
      unfold py3
      (try unfold stOK)
      split <;> (try split) <;> (try split) <;> omega
  · refine X.iload_n (i := 2) rfl rfl dX6_said_5 (pc' := 6) rfl ?_
    refine X.iconst dX6_said_6 (pc' := 7) rfl ?_
    refine X.iconst dX6_said_7 (pc' := 8) rfl ?_
    refine X.callS (rm := rm_X6_in) (As := [vi w, vi 0, vi 5]) (st := [rf m]) dX6_said_8 ck_X6_32 rfl rfl ⟨Nat.le_of_ble_eq_true rfl, Nat.le_of_ble_eq_true rfl⟩ (Nat.le_of_ble_eq_true rfl) (Nat.le_of_ble_eq_true rfl) (Nat.le_of_ble_eq_true rfl) (pc' := 11) rfl (k_X6_in ⟨by omega, by omega⟩ ⟨by omega, by omega⟩ ⟨by omega, by omega⟩) (fun q5 hq5 eq5 => ?_) (fun _ _ x1 => x1.elim)
    obtain ⟨rfl, r6, rfl, hr6⟩ := eq5
    refine X.if_eq (tgt := 18) dX6_said_11 ⟨by omega, by omega⟩ (by decide) (pc' := 14) rfl (fun c11 => ?_) (fun c11 => ?_)
    · refine X.iconst dX6_said_18 (pc' := 19) rfl ?_
      refine X.iconst dX6_said_19 (pc' := 20) rfl ?_
      refine X.iconst dX6_said_20 (pc' := 21) rfl ?_
      refine X.callV (ci := 6) (a := m) (rm := rm_X6_goes) (As := [vi 0, vi 1, vi 1]) (st := []) dX6_said_21 ck_X6_60 rfl (by decide) hL.1.1 rfl rfl ⟨Nat.le_of_ble_eq_true rfl, Nat.le_of_ble_eq_true rfl⟩ (Nat.le_of_ble_eq_true rfl) (Nat.le_of_ble_eq_true rfl) (Nat.le_of_ble_eq_true rfl) (pc' := 24) rfl (k_X6_goes hL.1 (by omega) (by omega) (by omega)) (fun q7 hq7 eq7 => ?_) (fun _ _ x1 => x1.elim)
      obtain ⟨hG, r8, rfl, hr8⟩ := eq7
      have hM3 : mI hq7 m 3 = (if (0 : Int) = 0 then 1 else if (1 : Int) = 0 then 2 else if (1 : Int) = 0 then 3 else 0) := by rw [hG, mI_sI, if_pos ⟨rfl, rfl⟩]
      have hFq : FM h hq7 m := by rw [hG]; exact FM.rf.w ⟨by omega, by omega⟩
      have hL2 : ML hq7 m L := hL.th hFq (by rw [hG]; funext j; rw [mI_sI, if_neg (by omega)]) (by rw [hG]; funext j; rw [mI_sI, if_neg (by omega)]) (fun j z => by rw [hG, mI_sI, if_neg (by omega)])
      refine X.if_ne (tgt := 29) dX6_said_24 ⟨by omega, by omega⟩ (by decide) (pc' := 27) rfl (fun c24 => ?_) (fun c24 => ?_)
      · refine X.aload_n (i := 0) rfl rfl dX6_said_29 (pc' := 30) rfl ?_
        refine X.iload_n (i := 1) rfl rfl dX6_said_30 (pc' := 31) rfl ?_
        refine X.iload_n (i := 2) rfl rfl dX6_said_31 (pc' := 32) rfl ?_
        refine X.callV (ci := 6) (a := m) (rm := rm_X6_ofWord) (As := [vi n, vi w]) (st := []) dX6_said_32 ck_X6_129 rfl (by decide) hL2.1.1 rfl rfl ⟨Nat.le_of_ble_eq_true rfl, Nat.le_of_ble_eq_true rfl⟩ (Nat.le_of_ble_eq_true rfl) (Nat.le_of_ble_eq_true rfl) (Nat.le_of_ble_eq_true rfl) (pc' := 35) rfl (k_X6_ofWord hL2.1 hL2.2.1 hA ⟨by omega, by omega⟩ ⟨by omega, by omega⟩) (fun q9 hq9 eq9 => ?_) (fun _ _ x1 => x1.elim)
        obtain ⟨rfl, r10, rfl, hr10⟩ := eq9
        refine X.iret dX6_said_35 (Or.inl rfl) (Nat.le_of_ble_eq_true rfl) (Nat.le_of_ble_eq_true rfl) ?_
        subst hPR
        exact ⟨hFq, _, rfl, Or.inl ⟨⟨by first | trivial | omega, by first | trivial | omega, by first | trivial | omega⟩, by rw [hM3]; split <;> (try split) <;> (try split) <;> omega, hr10, hL2⟩⟩
      · refine X.iconst dX6_said_27 (pc' := 28) rfl ?_
        refine X.iret dX6_said_28 (Or.inl rfl) (Nat.le_of_ble_eq_true rfl) (Nat.le_of_ble_eq_true rfl) ?_
        subst hPR
        refine ⟨hFq, _, rfl, Or.inr ⟨?_, rfl, hL2⟩⟩
        rw [hM3]
        unfold py3
        (try unfold stOK)
        split <;> (try split) <;> (try split) <;> omega
    · refine X.iconst dX6_said_14 (pc' := 15) rfl ?_
      refine X.goto (tgt := 19) dX6_said_15 (by decide) ?_
      refine X.iconst dX6_said_19 (pc' := 20) rfl ?_
      refine X.iconst dX6_said_20 (pc' := 21) rfl ?_
      refine X.callV (ci := 6) (a := m) (rm := rm_X6_goes) (As := [vi 1, vi 1, vi 1]) (st := []) dX6_said_21 ck_X6_60 rfl (by decide) hL.1.1 rfl rfl ⟨Nat.le_of_ble_eq_true rfl, Nat.le_of_ble_eq_true rfl⟩ (Nat.le_of_ble_eq_true rfl) (Nat.le_of_ble_eq_true rfl) (Nat.le_of_ble_eq_true rfl) (pc' := 24) rfl (k_X6_goes hL.1 (by omega) (by omega) (by omega)) (fun q11 hq11 eq11 => ?_) (fun _ _ x1 => x1.elim)
      obtain ⟨hG, r12, rfl, hr12⟩ := eq11
      have hM3 : mI hq11 m 3 = (if (1 : Int) = 0 then 1 else if (1 : Int) = 0 then 2 else if (1 : Int) = 0 then 3 else 0) := by rw [hG, mI_sI, if_pos ⟨rfl, rfl⟩]
      have hFq : FM h hq11 m := by rw [hG]; exact FM.rf.w ⟨by omega, by omega⟩
      have hL2 : ML hq11 m L := hL.th hFq (by rw [hG]; funext j; rw [mI_sI, if_neg (by omega)]) (by rw [hG]; funext j; rw [mI_sI, if_neg (by omega)]) (fun j z => by rw [hG, mI_sI, if_neg (by omega)])
      refine X.if_ne (tgt := 29) dX6_said_24 ⟨by omega, by omega⟩ (by decide) (pc' := 27) rfl (fun c24 => ?_) (fun c24 => ?_)
      · refine X.aload_n (i := 0) rfl rfl dX6_said_29 (pc' := 30) rfl ?_
        refine X.iload_n (i := 1) rfl rfl dX6_said_30 (pc' := 31) rfl ?_
        refine X.iload_n (i := 2) rfl rfl dX6_said_31 (pc' := 32) rfl ?_
        refine X.callV (ci := 6) (a := m) (rm := rm_X6_ofWord) (As := [vi n, vi w]) (st := []) dX6_said_32 ck_X6_129 rfl (by decide) hL2.1.1 rfl rfl ⟨Nat.le_of_ble_eq_true rfl, Nat.le_of_ble_eq_true rfl⟩ (Nat.le_of_ble_eq_true rfl) (Nat.le_of_ble_eq_true rfl) (Nat.le_of_ble_eq_true rfl) (pc' := 35) rfl (k_X6_ofWord hL2.1 hL2.2.1 hA ⟨by omega, by omega⟩ ⟨by omega, by omega⟩) (fun q13 hq13 eq13 => ?_) (fun _ _ x1 => x1.elim)
        obtain ⟨rfl, r14, rfl, hr14⟩ := eq13
        refine X.iret dX6_said_35 (Or.inl rfl) (Nat.le_of_ble_eq_true rfl) (Nat.le_of_ble_eq_true rfl) ?_
        subst hPR
        exact ⟨hFq, _, rfl, Or.inl ⟨⟨by first | trivial | omega, by first | trivial | omega, by first | trivial | omega⟩, by rw [hM3]; split <;> (try split) <;> (try split) <;> omega, hr14, hL2⟩⟩
      · refine X.iconst dX6_said_27 (pc' := 28) rfl ?_
        refine X.iret dX6_said_28 (Or.inl rfl) (Nat.le_of_ble_eq_true rfl) (Nat.le_of_ble_eq_true rfl) ?_
        subst hPR
        refine ⟨hFq, _, rfl, Or.inr ⟨?_, rfl, hL2⟩⟩
        rw [hM3]
        unfold py3
        (try unfold stOK)
        split <;> (try split) <;> (try split) <;> omega
set_option maxHeartbeats 4000000 in
set_option maxRecDepth 100000 in
theorem k_X6_comes {Ω : xO} {h : xM} {m : Nat} {L : lS} {n s : Int} (hL : ML h m L) (irn : inR n) (irs : inR s) : xCt Ω yX6_comes cX6_comes 3 (some .int) rm_X6_comes [rf m, vi n, vi s] h (fun q h' => FM h h' m ∧ ∃ v, q = some (vi v) ∧ (((((0 ≤ s ∧ s < 6)) ∧ (0 ≤ n) ∧ (True)) ∧ mI h' m 3 = 0 ∧ v = (if n < aW (lA L) then aCo (lA L) s n else -1) ∧ ML h' m (L)) ∨ (py3 ((0 ≤ s ∧ s < 6)) (0 ≤ n) (True) (mI h' m 3) ∧ v = 0 ∧ ML h' m L))) xNo := by
  refine xCt_of (ini := false) (by decide +kernel) (Nat.le_of_ble_eq_true rfl) (fun q => absurd q (by decide)) ?_
  generalize hPR : (fun q h' => FM h h' m ∧ ∃ v, q = some (vi v) ∧ (((((0 ≤ s ∧ s < 6)) ∧ (0 ≤ n) ∧ (True)) ∧ mI h' m 3 = 0 ∧ v = (if n < aW (lA L) then aCo (lA L) s n else -1) ∧ ML h' m (L)) ∨ (py3 ((0 ≤ s ∧ s < 6)) (0 ≤ n) (True) (mI h' m 3) ∧ v = 0 ∧ ML h' m L)) : Option xV → xM → Prop) = PR
  have K0 : X Ω RX6 cX6_comes 3 (some .int) false rm_X6_comes PR xNo 0 0 0 [some (rf m), some (vi n), some (vi s)] [] h := ?_
  exact K0
  have hz := hL.2.2.1
  have hO := hL.2.2.2.2.2.2.2.2
  have hz6 := hO.2.2.1
  have hA : aOK (lA L) := hO.2.1.1
  have hM := hL.2.1
  obtain ⟨mSt, mB, mW, mWl, mWo, mCo, mHe⟩ := id hM
  obtain ⟨okB, okN, okWl, okS, okW, okM, okC, okH⟩ := id hA
  have hTn := hL.2.2.2.2.2.2.1
  have hTr := hO.2.2.2.2.1
  have hKf := hL.2.2.2.2.1
  have hKb := hO.2.2.2.1
  obtain ⟨irn1, irn2⟩ := irn
  obtain ⟨irs1, irs2⟩ := irs
  refine X.aload_n (i := 0) rfl rfl dX6_comes_0 (pc' := 1) rfl ?_
  refine X.iload_n (i := 2) rfl rfl dX6_comes_1 (pc' := 2) rfl ?_
  refine X.callS (rm := rm_X6_isSeat) (As := [vi s]) (st := [rf m]) dX6_comes_2 ck_X6_52 rfl rfl ⟨Nat.le_of_ble_eq_true rfl, Nat.le_of_ble_eq_true rfl⟩ (Nat.le_of_ble_eq_true rfl) (Nat.le_of_ble_eq_true rfl) (Nat.le_of_ble_eq_true rfl) (pc' := 5) rfl (k_X6_isSeat ⟨by omega, by omega⟩) (fun q1 hq1 eq1 => ?_) (fun _ _ x1 => x1.elim)
  obtain ⟨rfl, r2, rfl, hr2⟩ := eq1
  refine X.iload_n (i := 1) rfl rfl dX6_comes_5 (pc' := 6) rfl ?_
  refine X.if_lt (tgt := 13) dX6_comes_6 ⟨by omega, by omega⟩ (by decide) (pc' := 9) rfl (fun c6 => ?_) (fun c6 => ?_)
  · refine X.iconst dX6_comes_13 (pc' := 14) rfl ?_
    refine X.iconst dX6_comes_14 (pc' := 15) rfl ?_
    refine X.callV (ci := 6) (a := m) (rm := rm_X6_goes) (As := [vi r2, vi 0, vi 1]) (st := []) dX6_comes_15 ck_X6_60 rfl (by decide) hL.1.1 rfl rfl ⟨Nat.le_of_ble_eq_true rfl, Nat.le_of_ble_eq_true rfl⟩ (Nat.le_of_ble_eq_true rfl) (Nat.le_of_ble_eq_true rfl) (Nat.le_of_ble_eq_true rfl) (pc' := 18) rfl (k_X6_goes hL.1 (by omega) (by omega) (by omega)) (fun q3 hq3 eq3 => ?_) (fun _ _ x1 => x1.elim)
    obtain ⟨hG, r4, rfl, hr4⟩ := eq3
    have hM3 : mI hq3 m 3 = (if (r2 : Int) = 0 then 1 else if (0 : Int) = 0 then 2 else if (1 : Int) = 0 then 3 else 0) := by rw [hG, mI_sI, if_pos ⟨rfl, rfl⟩]
    have hFq : FM h hq3 m := by rw [hG]; exact FM.rf.w ⟨by omega, by omega⟩
    have hL2 : ML hq3 m L := hL.th hFq (by rw [hG]; funext j; rw [mI_sI, if_neg (by omega)]) (by rw [hG]; funext j; rw [mI_sI, if_neg (by omega)]) (fun j z => by rw [hG, mI_sI, if_neg (by omega)])
    refine X.if_ne (tgt := 23) dX6_comes_18 ⟨by omega, by omega⟩ (by decide) (pc' := 21) rfl (fun c18 => ?_) (fun c18 => ?_)
    · refine X.aload_n (i := 0) rfl rfl dX6_comes_23 (pc' := 24) rfl ?_
      refine X.iload_n (i := 1) rfl rfl dX6_comes_24 (pc' := 25) rfl ?_
      refine X.iload_n (i := 2) rfl rfl dX6_comes_25 (pc' := 26) rfl ?_
      refine X.callV (ci := 6) (a := m) (rm := rm_X6_comesTo) (As := [vi n, vi s]) (st := []) dX6_comes_26 ck_X6_132 rfl (by decide) hL2.1.1 rfl rfl ⟨Nat.le_of_ble_eq_true rfl, Nat.le_of_ble_eq_true rfl⟩ (Nat.le_of_ble_eq_true rfl) (Nat.le_of_ble_eq_true rfl) (Nat.le_of_ble_eq_true rfl) (pc' := 29) rfl (k_X6_comesTo hL2.1 hL2.2.1 hA ⟨by omega, by omega⟩ ⟨by omega, by omega⟩) (fun q5 hq5 eq5 => ?_) (fun _ _ x1 => x1.elim)
      obtain ⟨rfl, r6, rfl, hr6⟩ := eq5
      refine X.iret dX6_comes_29 (Or.inl rfl) (Nat.le_of_ble_eq_true rfl) (Nat.le_of_ble_eq_true rfl) ?_
      subst hPR
      exact ⟨hFq, _, rfl, Or.inl ⟨⟨by first | trivial | omega, by first | trivial | omega, by first | trivial | omega⟩, by rw [hM3]; split <;> (try split) <;> (try split) <;> omega, hr6, hL2⟩⟩
    · refine X.iconst dX6_comes_21 (pc' := 22) rfl ?_
      refine X.iret dX6_comes_22 (Or.inl rfl) (Nat.le_of_ble_eq_true rfl) (Nat.le_of_ble_eq_true rfl) ?_
      subst hPR
      refine ⟨hFq, _, rfl, Or.inr ⟨?_, rfl, hL2⟩⟩
      rw [hM3]
      unfold py3
      (try unfold stOK)
      split <;> (try split) <;> (try split) <;> omega
  · refine X.iconst dX6_comes_9 (pc' := 10) rfl ?_
    refine X.goto (tgt := 14) dX6_comes_10 (by decide) ?_
    refine X.iconst dX6_comes_14 (pc' := 15) rfl ?_
    refine X.callV (ci := 6) (a := m) (rm := rm_X6_goes) (As := [vi r2, vi 1, vi 1]) (st := []) dX6_comes_15 ck_X6_60 rfl (by decide) hL.1.1 rfl rfl ⟨Nat.le_of_ble_eq_true rfl, Nat.le_of_ble_eq_true rfl⟩ (Nat.le_of_ble_eq_true rfl) (Nat.le_of_ble_eq_true rfl) (Nat.le_of_ble_eq_true rfl) (pc' := 18) rfl (k_X6_goes hL.1 (by omega) (by omega) (by omega)) (fun q7 hq7 eq7 => ?_) (fun _ _ x1 => x1.elim)
    obtain ⟨hG, r8, rfl, hr8⟩ := eq7
    have hM3 : mI hq7 m 3 = (if (r2 : Int) = 0 then 1 else if (1 : Int) = 0 then 2 else if (1 : Int) = 0 then 3 else 0) := by rw [hG, mI_sI, if_pos ⟨rfl, rfl⟩]
    have hFq : FM h hq7 m := by rw [hG]; exact FM.rf.w ⟨by omega, by omega⟩
    have hL2 : ML hq7 m L := hL.th hFq (by rw [hG]; funext j; rw [mI_sI, if_neg (by omega)]) (by rw [hG]; funext j; rw [mI_sI, if_neg (by omega)]) (fun j z => by rw [hG, mI_sI, if_neg (by omega)])
    refine X.if_ne (tgt := 23) dX6_comes_18 ⟨by omega, by omega⟩ (by decide) (pc' := 21) rfl (fun c18 => ?_) (fun c18 => ?_)
    · refine X.aload_n (i := 0) rfl rfl dX6_comes_23 (pc' := 24) rfl ?_
      refine X.iload_n (i := 1) rfl rfl dX6_comes_24 (pc' := 25) rfl ?_
      refine X.iload_n (i := 2) rfl rfl dX6_comes_25 (pc' := 26) rfl ?_
      refine X.callV (ci := 6) (a := m) (rm := rm_X6_comesTo) (As := [vi n, vi s]) (st := []) dX6_comes_26 ck_X6_132 rfl (by decide) hL2.1.1 rfl rfl ⟨Nat.le_of_ble_eq_true rfl, Nat.le_of_ble_eq_true rfl⟩ (Nat.le_of_ble_eq_true rfl) (Nat.le_of_ble_eq_true rfl) (Nat.le_of_ble_eq_true rfl) (pc' := 29) rfl (k_X6_comesTo hL2.1 hL2.2.1 hA ⟨by omega, by omega⟩ ⟨by omega, by omega⟩) (fun q9 hq9 eq9 => ?_) (fun _ _ x1 => x1.elim)
      obtain ⟨rfl, r10, rfl, hr10⟩ := eq9
      refine X.iret dX6_comes_29 (Or.inl rfl) (Nat.le_of_ble_eq_true rfl) (Nat.le_of_ble_eq_true rfl) ?_
      subst hPR
      exact ⟨hFq, _, rfl, Or.inl ⟨⟨by first | trivial | omega, by first | trivial | omega, by first | trivial | omega⟩, by rw [hM3]; split <;> (try split) <;> (try split) <;> omega, hr10, hL2⟩⟩
    · refine X.iconst dX6_comes_21 (pc' := 22) rfl ?_
      refine X.iret dX6_comes_22 (Or.inl rfl) (Nat.le_of_ble_eq_true rfl) (Nat.le_of_ble_eq_true rfl) ?_
      subst hPR
      refine ⟨hFq, _, rfl, Or.inr ⟨?_, rfl, hL2⟩⟩
      rw [hM3]
      unfold py3
      (try unfold stOK)
      split <;> (try split) <;> (try split) <;> omega
set_option maxHeartbeats 4000000 in
set_option maxRecDepth 100000 in
theorem k_X6_heard {Ω : xO} {h : xM} {m : Nat} {L : lS} {s k w : Int} (hL : ML h m L) (irs : inR s) (irk : inR k) (irw : inR w) : xCt Ω yX6_heard cX6_heard 4 (some .int) rm_X6_heard [rf m, vi s, vi k, vi w] h (fun q h' => FM h h' m ∧ ∃ v, q = some (vi v) ∧ (((((0 ≤ s ∧ s < 6)) ∧ (0 ≤ k ∧ (0 ≤ w ∧ w ≤ 2)) ∧ (True)) ∧ mI h' m 3 = 0 ∧ v = (if k < aB (lA L) then oBt (lA L) s k w else -1) ∧ ML h' m (L)) ∨ (py3 ((0 ≤ s ∧ s < 6)) (0 ≤ k ∧ (0 ≤ w ∧ w ≤ 2)) (True) (mI h' m 3) ∧ v = 0 ∧ ML h' m L))) xNo := by
  refine xCt_of (ini := false) (by decide +kernel) (Nat.le_of_ble_eq_true rfl) (fun q => absurd q (by decide)) ?_
  generalize hPR : (fun q h' => FM h h' m ∧ ∃ v, q = some (vi v) ∧ (((((0 ≤ s ∧ s < 6)) ∧ (0 ≤ k ∧ (0 ≤ w ∧ w ≤ 2)) ∧ (True)) ∧ mI h' m 3 = 0 ∧ v = (if k < aB (lA L) then oBt (lA L) s k w else -1) ∧ ML h' m (L)) ∨ (py3 ((0 ≤ s ∧ s < 6)) (0 ≤ k ∧ (0 ≤ w ∧ w ≤ 2)) (True) (mI h' m 3) ∧ v = 0 ∧ ML h' m L)) : Option xV → xM → Prop) = PR
  have K0 : X Ω RX6 cX6_heard 4 (some .int) false rm_X6_heard PR xNo 0 0 0 [some (rf m), some (vi s), some (vi k), some (vi w)] [] h := ?_
  exact K0
  have hz := hL.2.2.1
  have hO := hL.2.2.2.2.2.2.2.2
  have hz6 := hO.2.2.1
  have hA : aOK (lA L) := hO.2.1.1
  have hM := hL.2.1
  obtain ⟨mSt, mB, mW, mWl, mWo, mCo, mHe⟩ := id hM
  obtain ⟨okB, okN, okWl, okS, okW, okM, okC, okH⟩ := id hA
  have hTn := hL.2.2.2.2.2.2.1
  have hTr := hO.2.2.2.2.1
  have hKf := hL.2.2.2.2.1
  have hKb := hO.2.2.2.1
  obtain ⟨irs1, irs2⟩ := irs
  obtain ⟨irk1, irk2⟩ := irk
  obtain ⟨irw1, irw2⟩ := irw
  refine X.aload_n (i := 0) rfl rfl dX6_heard_0 (pc' := 1) rfl ?_
  refine X.iload_n (i := 1) rfl rfl dX6_heard_1 (pc' := 2) rfl ?_
  refine X.callS (rm := rm_X6_isSeat) (As := [vi s]) (st := [rf m]) dX6_heard_2 ck_X6_52 rfl rfl ⟨Nat.le_of_ble_eq_true rfl, Nat.le_of_ble_eq_true rfl⟩ (Nat.le_of_ble_eq_true rfl) (Nat.le_of_ble_eq_true rfl) (Nat.le_of_ble_eq_true rfl) (pc' := 5) rfl (k_X6_isSeat ⟨by omega, by omega⟩) (fun q1 hq1 eq1 => ?_) (fun _ _ x1 => x1.elim)
  obtain ⟨rfl, r2, rfl, hr2⟩ := eq1
  refine X.iload_n (i := 2) rfl rfl dX6_heard_5 (pc' := 6) rfl ?_
  refine X.if_lt (tgt := 22) dX6_heard_6 ⟨by omega, by omega⟩ (by decide) (pc' := 9) rfl (fun c6 => ?_) (fun c6 => ?_)
  · refine X.iconst dX6_heard_22 (pc' := 23) rfl ?_
    refine X.iconst dX6_heard_23 (pc' := 24) rfl ?_
    refine X.callV (ci := 6) (a := m) (rm := rm_X6_goes) (As := [vi r2, vi 0, vi 1]) (st := []) dX6_heard_24 ck_X6_60 rfl (by decide) hL.1.1 rfl rfl ⟨Nat.le_of_ble_eq_true rfl, Nat.le_of_ble_eq_true rfl⟩ (Nat.le_of_ble_eq_true rfl) (Nat.le_of_ble_eq_true rfl) (Nat.le_of_ble_eq_true rfl) (pc' := 27) rfl (k_X6_goes hL.1 (by omega) (by omega) (by omega)) (fun q3 hq3 eq3 => ?_) (fun _ _ x1 => x1.elim)
    obtain ⟨hG, r4, rfl, hr4⟩ := eq3
    have hM3 : mI hq3 m 3 = (if (r2 : Int) = 0 then 1 else if (0 : Int) = 0 then 2 else if (1 : Int) = 0 then 3 else 0) := by rw [hG, mI_sI, if_pos ⟨rfl, rfl⟩]
    have hFq : FM h hq3 m := by rw [hG]; exact FM.rf.w ⟨by omega, by omega⟩
    have hL2 : ML hq3 m L := hL.th hFq (by rw [hG]; funext j; rw [mI_sI, if_neg (by omega)]) (by rw [hG]; funext j; rw [mI_sI, if_neg (by omega)]) (fun j z => by rw [hG, mI_sI, if_neg (by omega)])
    refine X.if_ne (tgt := 32) dX6_heard_27 ⟨by omega, by omega⟩ (by decide) (pc' := 30) rfl (fun c27 => ?_) (fun c27 => ?_)
    · refine X.aload_n (i := 0) rfl rfl dX6_heard_32 (pc' := 33) rfl ?_
      refine X.iload_n (i := 1) rfl rfl dX6_heard_33 (pc' := 34) rfl ?_
      refine X.iload_n (i := 2) rfl rfl dX6_heard_34 (pc' := 35) rfl ?_
      refine X.iload_n (i := 3) rfl rfl dX6_heard_35 (pc' := 36) rfl ?_
      refine X.callV (ci := 6) (a := m) (rm := rm_X6_ofHeard) (As := [vi s, vi k, vi w]) (st := []) dX6_heard_36 ck_X6_138 rfl (by decide) hL2.1.1 rfl rfl ⟨Nat.le_of_ble_eq_true rfl, Nat.le_of_ble_eq_true rfl⟩ (Nat.le_of_ble_eq_true rfl) (Nat.le_of_ble_eq_true rfl) (Nat.le_of_ble_eq_true rfl) (pc' := 39) rfl (k_X6_ofHeard hL2.1 hL2.2.1 hA ⟨by omega, by omega⟩ ⟨by omega, by omega⟩ ⟨by omega, by omega⟩) (fun q5 hq5 eq5 => ?_) (fun _ _ x1 => x1.elim)
      obtain ⟨rfl, r6, rfl, hr6⟩ := eq5
      refine X.iret dX6_heard_39 (Or.inl rfl) (Nat.le_of_ble_eq_true rfl) (Nat.le_of_ble_eq_true rfl) ?_
      subst hPR
      exact ⟨hFq, _, rfl, Or.inl ⟨⟨by first | trivial | omega, by first | trivial | omega, by first | trivial | omega⟩, by rw [hM3]; split <;> (try split) <;> (try split) <;> omega, hr6, hL2⟩⟩
    · refine X.iconst dX6_heard_30 (pc' := 31) rfl ?_
      refine X.iret dX6_heard_31 (Or.inl rfl) (Nat.le_of_ble_eq_true rfl) (Nat.le_of_ble_eq_true rfl) ?_
      subst hPR
      refine ⟨hFq, _, rfl, Or.inr ⟨?_, rfl, hL2⟩⟩
      rw [hM3]
      unfold py3
      (try unfold stOK)
      split <;> (try split) <;> (try split) <;> omega
  · refine X.iload_n (i := 3) rfl rfl dX6_heard_9 (pc' := 10) rfl ?_
    refine X.iconst dX6_heard_10 (pc' := 11) rfl ?_
    refine X.iconst dX6_heard_11 (pc' := 12) rfl ?_
    refine X.callS (rm := rm_X6_in) (As := [vi w, vi 0, vi 2]) (st := [vi r2, rf m]) dX6_heard_12 ck_X6_32 rfl rfl ⟨Nat.le_of_ble_eq_true rfl, Nat.le_of_ble_eq_true rfl⟩ (Nat.le_of_ble_eq_true rfl) (Nat.le_of_ble_eq_true rfl) (Nat.le_of_ble_eq_true rfl) (pc' := 15) rfl (k_X6_in ⟨by omega, by omega⟩ ⟨by omega, by omega⟩ ⟨by omega, by omega⟩) (fun q7 hq7 eq7 => ?_) (fun _ _ x1 => x1.elim)
    obtain ⟨rfl, r8, rfl, hr8⟩ := eq7
    refine X.if_eq (tgt := 22) dX6_heard_15 ⟨by omega, by omega⟩ (by decide) (pc' := 18) rfl (fun c15 => ?_) (fun c15 => ?_)
    · refine X.iconst dX6_heard_22 (pc' := 23) rfl ?_
      refine X.iconst dX6_heard_23 (pc' := 24) rfl ?_
      refine X.callV (ci := 6) (a := m) (rm := rm_X6_goes) (As := [vi r2, vi 0, vi 1]) (st := []) dX6_heard_24 ck_X6_60 rfl (by decide) hL.1.1 rfl rfl ⟨Nat.le_of_ble_eq_true rfl, Nat.le_of_ble_eq_true rfl⟩ (Nat.le_of_ble_eq_true rfl) (Nat.le_of_ble_eq_true rfl) (Nat.le_of_ble_eq_true rfl) (pc' := 27) rfl (k_X6_goes hL.1 (by omega) (by omega) (by omega)) (fun q9 hq9 eq9 => ?_) (fun _ _ x1 => x1.elim)
      obtain ⟨hG, r10, rfl, hr10⟩ := eq9
      have hM3 : mI hq9 m 3 = (if (r2 : Int) = 0 then 1 else if (0 : Int) = 0 then 2 else if (1 : Int) = 0 then 3 else 0) := by rw [hG, mI_sI, if_pos ⟨rfl, rfl⟩]
      have hFq : FM h hq9 m := by rw [hG]; exact FM.rf.w ⟨by omega, by omega⟩
      have hL2 : ML hq9 m L := hL.th hFq (by rw [hG]; funext j; rw [mI_sI, if_neg (by omega)]) (by rw [hG]; funext j; rw [mI_sI, if_neg (by omega)]) (fun j z => by rw [hG, mI_sI, if_neg (by omega)])
      refine X.if_ne (tgt := 32) dX6_heard_27 ⟨by omega, by omega⟩ (by decide) (pc' := 30) rfl (fun c27 => ?_) (fun c27 => ?_)
      · refine X.aload_n (i := 0) rfl rfl dX6_heard_32 (pc' := 33) rfl ?_
        refine X.iload_n (i := 1) rfl rfl dX6_heard_33 (pc' := 34) rfl ?_
        refine X.iload_n (i := 2) rfl rfl dX6_heard_34 (pc' := 35) rfl ?_
        refine X.iload_n (i := 3) rfl rfl dX6_heard_35 (pc' := 36) rfl ?_
        refine X.callV (ci := 6) (a := m) (rm := rm_X6_ofHeard) (As := [vi s, vi k, vi w]) (st := []) dX6_heard_36 ck_X6_138 rfl (by decide) hL2.1.1 rfl rfl ⟨Nat.le_of_ble_eq_true rfl, Nat.le_of_ble_eq_true rfl⟩ (Nat.le_of_ble_eq_true rfl) (Nat.le_of_ble_eq_true rfl) (Nat.le_of_ble_eq_true rfl) (pc' := 39) rfl (k_X6_ofHeard hL2.1 hL2.2.1 hA ⟨by omega, by omega⟩ ⟨by omega, by omega⟩ ⟨by omega, by omega⟩) (fun q11 hq11 eq11 => ?_) (fun _ _ x1 => x1.elim)
        obtain ⟨rfl, r12, rfl, hr12⟩ := eq11
        refine X.iret dX6_heard_39 (Or.inl rfl) (Nat.le_of_ble_eq_true rfl) (Nat.le_of_ble_eq_true rfl) ?_
        subst hPR
        exact ⟨hFq, _, rfl, Or.inl ⟨⟨by first | trivial | omega, by first | trivial | omega, by first | trivial | omega⟩, by rw [hM3]; split <;> (try split) <;> (try split) <;> omega, hr12, hL2⟩⟩
      · refine X.iconst dX6_heard_30 (pc' := 31) rfl ?_
        refine X.iret dX6_heard_31 (Or.inl rfl) (Nat.le_of_ble_eq_true rfl) (Nat.le_of_ble_eq_true rfl) ?_
        subst hPR
        refine ⟨hFq, _, rfl, Or.inr ⟨?_, rfl, hL2⟩⟩
        rw [hM3]
        unfold py3
        (try unfold stOK)
        split <;> (try split) <;> (try split) <;> omega
    · refine X.iconst dX6_heard_18 (pc' := 19) rfl ?_
      refine X.goto (tgt := 23) dX6_heard_19 (by decide) ?_
      refine X.iconst dX6_heard_23 (pc' := 24) rfl ?_
      refine X.callV (ci := 6) (a := m) (rm := rm_X6_goes) (As := [vi r2, vi 1, vi 1]) (st := []) dX6_heard_24 ck_X6_60 rfl (by decide) hL.1.1 rfl rfl ⟨Nat.le_of_ble_eq_true rfl, Nat.le_of_ble_eq_true rfl⟩ (Nat.le_of_ble_eq_true rfl) (Nat.le_of_ble_eq_true rfl) (Nat.le_of_ble_eq_true rfl) (pc' := 27) rfl (k_X6_goes hL.1 (by omega) (by omega) (by omega)) (fun q13 hq13 eq13 => ?_) (fun _ _ x1 => x1.elim)
      obtain ⟨hG, r14, rfl, hr14⟩ := eq13
      have hM3 : mI hq13 m 3 = (if (r2 : Int) = 0 then 1 else if (1 : Int) = 0 then 2 else if (1 : Int) = 0 then 3 else 0) := by rw [hG, mI_sI, if_pos ⟨rfl, rfl⟩]
      have hFq : FM h hq13 m := by rw [hG]; exact FM.rf.w ⟨by omega, by omega⟩
      have hL2 : ML hq13 m L := hL.th hFq (by rw [hG]; funext j; rw [mI_sI, if_neg (by omega)]) (by rw [hG]; funext j; rw [mI_sI, if_neg (by omega)]) (fun j z => by rw [hG, mI_sI, if_neg (by omega)])
      refine X.if_ne (tgt := 32) dX6_heard_27 ⟨by omega, by omega⟩ (by decide) (pc' := 30) rfl (fun c27 => ?_) (fun c27 => ?_)
      · refine X.aload_n (i := 0) rfl rfl dX6_heard_32 (pc' := 33) rfl ?_
        refine X.iload_n (i := 1) rfl rfl dX6_heard_33 (pc' := 34) rfl ?_
        refine X.iload_n (i := 2) rfl rfl dX6_heard_34 (pc' := 35) rfl ?_
        refine X.iload_n (i := 3) rfl rfl dX6_heard_35 (pc' := 36) rfl ?_
        refine X.callV (ci := 6) (a := m) (rm := rm_X6_ofHeard) (As := [vi s, vi k, vi w]) (st := []) dX6_heard_36 ck_X6_138 rfl (by decide) hL2.1.1 rfl rfl ⟨Nat.le_of_ble_eq_true rfl, Nat.le_of_ble_eq_true rfl⟩ (Nat.le_of_ble_eq_true rfl) (Nat.le_of_ble_eq_true rfl) (Nat.le_of_ble_eq_true rfl) (pc' := 39) rfl (k_X6_ofHeard hL2.1 hL2.2.1 hA ⟨by omega, by omega⟩ ⟨by omega, by omega⟩ ⟨by omega, by omega⟩) (fun q15 hq15 eq15 => ?_) (fun _ _ x1 => x1.elim)
        obtain ⟨rfl, r16, rfl, hr16⟩ := eq15
        refine X.iret dX6_heard_39 (Or.inl rfl) (Nat.le_of_ble_eq_true rfl) (Nat.le_of_ble_eq_true rfl) ?_
        subst hPR
        exact ⟨hFq, _, rfl, Or.inl ⟨⟨by first | trivial | omega, by first | trivial | omega, by first | trivial | omega⟩, by rw [hM3]; split <;> (try split) <;> (try split) <;> omega, hr16, hL2⟩⟩
      · refine X.iconst dX6_heard_30 (pc' := 31) rfl ?_
        refine X.iret dX6_heard_31 (Or.inl rfl) (Nat.le_of_ble_eq_true rfl) (Nat.le_of_ble_eq_true rfl) ?_
        subst hPR
        refine ⟨hFq, _, rfl, Or.inr ⟨?_, rfl, hL2⟩⟩
        rw [hM3]
        unfold py3
        (try unfold stOK)
        split <;> (try split) <;> (try split) <;> omega
set_option maxHeartbeats 4000000 in
set_option maxRecDepth 100000 in
theorem k_X6_speaker {Ω : xO} {h : xM} {m : Nat} {L : lS} {s w : Int} (hL : ML h m L) (irs : inR s) (irw : inR w) : xCt Ω yX6_speaker cX6_speaker 3 (some .int) rm_X6_speaker [rf m, vi s, vi w] h (fun q h' => FM h h' m ∧ ∃ v, q = some (vi v) ∧ (((((0 ≤ s ∧ s < 6)) ∧ (0 ≤ w ∧ w ≤ 7) ∧ (True)) ∧ mI h' m 3 = 0 ∧ v = oSp (lA L) s w ∧ ML h' m (L)) ∨ (py3 ((0 ≤ s ∧ s < 6)) (0 ≤ w ∧ w ≤ 7) (True) (mI h' m 3) ∧ v = 0 ∧ ML h' m L))) xNo := by
  refine xCt_of (ini := false) (by decide +kernel) (Nat.le_of_ble_eq_true rfl) (fun q => absurd q (by decide)) ?_
  generalize hPR : (fun q h' => FM h h' m ∧ ∃ v, q = some (vi v) ∧ (((((0 ≤ s ∧ s < 6)) ∧ (0 ≤ w ∧ w ≤ 7) ∧ (True)) ∧ mI h' m 3 = 0 ∧ v = oSp (lA L) s w ∧ ML h' m (L)) ∨ (py3 ((0 ≤ s ∧ s < 6)) (0 ≤ w ∧ w ≤ 7) (True) (mI h' m 3) ∧ v = 0 ∧ ML h' m L)) : Option xV → xM → Prop) = PR
  have K0 : X Ω RX6 cX6_speaker 3 (some .int) false rm_X6_speaker PR xNo 0 0 0 [some (rf m), some (vi s), some (vi w)] [] h := ?_
  exact K0
  have hz := hL.2.2.1
  have hO := hL.2.2.2.2.2.2.2.2
  have hz6 := hO.2.2.1
  have hA : aOK (lA L) := hO.2.1.1
  have hM := hL.2.1
  obtain ⟨mSt, mB, mW, mWl, mWo, mCo, mHe⟩ := id hM
  obtain ⟨okB, okN, okWl, okS, okW, okM, okC, okH⟩ := id hA
  have hTn := hL.2.2.2.2.2.2.1
  have hTr := hO.2.2.2.2.1
  have hKf := hL.2.2.2.2.1
  have hKb := hO.2.2.2.1
  obtain ⟨irs1, irs2⟩ := irs
  obtain ⟨irw1, irw2⟩ := irw
  refine X.aload_n (i := 0) rfl rfl dX6_speaker_0 (pc' := 1) rfl ?_
  refine X.iload_n (i := 1) rfl rfl dX6_speaker_1 (pc' := 2) rfl ?_
  refine X.callS (rm := rm_X6_isSeat) (As := [vi s]) (st := [rf m]) dX6_speaker_2 ck_X6_52 rfl rfl ⟨Nat.le_of_ble_eq_true rfl, Nat.le_of_ble_eq_true rfl⟩ (Nat.le_of_ble_eq_true rfl) (Nat.le_of_ble_eq_true rfl) (Nat.le_of_ble_eq_true rfl) (pc' := 5) rfl (k_X6_isSeat ⟨by omega, by omega⟩) (fun q1 hq1 eq1 => ?_) (fun _ _ x1 => x1.elim)
  obtain ⟨rfl, r2, rfl, hr2⟩ := eq1
  refine X.iload_n (i := 2) rfl rfl dX6_speaker_5 (pc' := 6) rfl ?_
  refine X.iconst dX6_speaker_6 (pc' := 7) rfl ?_
  refine X.bipush (by decide +kernel) dX6_speaker_7 (pc' := 9) rfl ?_
  refine X.callS (rm := rm_X6_in) (As := [vi w, vi 0, vi 7]) (st := [vi r2, rf m]) dX6_speaker_9 ck_X6_32 rfl rfl ⟨Nat.le_of_ble_eq_true rfl, Nat.le_of_ble_eq_true rfl⟩ (Nat.le_of_ble_eq_true rfl) (Nat.le_of_ble_eq_true rfl) (Nat.le_of_ble_eq_true rfl) (pc' := 12) rfl (k_X6_in ⟨by omega, by omega⟩ ⟨by omega, by omega⟩ ⟨by omega, by omega⟩) (fun q3 hq3 eq3 => ?_) (fun _ _ x1 => x1.elim)
  obtain ⟨rfl, r4, rfl, hr4⟩ := eq3
  refine X.iconst dX6_speaker_12 (pc' := 13) rfl ?_
  refine X.callV (ci := 6) (a := m) (rm := rm_X6_goes) (As := [vi r2, vi r4, vi 1]) (st := []) dX6_speaker_13 ck_X6_60 rfl (by decide) hL.1.1 rfl rfl ⟨Nat.le_of_ble_eq_true rfl, Nat.le_of_ble_eq_true rfl⟩ (Nat.le_of_ble_eq_true rfl) (Nat.le_of_ble_eq_true rfl) (Nat.le_of_ble_eq_true rfl) (pc' := 16) rfl (k_X6_goes hL.1 (by omega) (by omega) (by omega)) (fun q5 hq5 eq5 => ?_) (fun _ _ x1 => x1.elim)
  obtain ⟨hG, r6, rfl, hr6⟩ := eq5
  have hM3 : mI hq5 m 3 = (if (r2 : Int) = 0 then 1 else if (r4 : Int) = 0 then 2 else if (1 : Int) = 0 then 3 else 0) := by rw [hG, mI_sI, if_pos ⟨rfl, rfl⟩]
  have hFq : FM h hq5 m := by rw [hG]; exact FM.rf.w ⟨by omega, by omega⟩
  have hL2 : ML hq5 m L := hL.th hFq (by rw [hG]; funext j; rw [mI_sI, if_neg (by omega)]) (by rw [hG]; funext j; rw [mI_sI, if_neg (by omega)]) (fun j z => by rw [hG, mI_sI, if_neg (by omega)])
  refine X.if_ne (tgt := 21) dX6_speaker_16 ⟨by omega, by omega⟩ (by decide) (pc' := 19) rfl (fun c16 => ?_) (fun c16 => ?_)
  · refine X.aload_n (i := 0) rfl rfl dX6_speaker_21 (pc' := 22) rfl ?_
    refine X.iload_n (i := 1) rfl rfl dX6_speaker_22 (pc' := 23) rfl ?_
    refine X.iload_n (i := 2) rfl rfl dX6_speaker_23 (pc' := 24) rfl ?_
    refine X.callV (ci := 6) (a := m) (rm := rm_X6_ofSpeaker) (As := [vi s, vi w]) (st := []) dX6_speaker_24 ck_X6_154 rfl (by decide) hL2.1.1 rfl rfl ⟨Nat.le_of_ble_eq_true rfl, Nat.le_of_ble_eq_true rfl⟩ (Nat.le_of_ble_eq_true rfl) (Nat.le_of_ble_eq_true rfl) (Nat.le_of_ble_eq_true rfl) (pc' := 27) rfl (k_X6_ofSpeaker hL2.1 hL2.2.1 hA ⟨by omega, by omega⟩ ⟨by omega, by omega⟩) (fun q7 hq7 eq7 => ?_) (fun _ _ x1 => x1.elim)
    obtain ⟨rfl, r8, rfl, hr8⟩ := eq7
    refine X.iret dX6_speaker_27 (Or.inl rfl) (Nat.le_of_ble_eq_true rfl) (Nat.le_of_ble_eq_true rfl) ?_
    subst hPR
    exact ⟨hFq, _, rfl, Or.inl ⟨⟨by first | trivial | omega, by first | trivial | omega, by first | trivial | omega⟩, by rw [hM3]; split <;> (try split) <;> (try split) <;> omega, hr8, hL2⟩⟩
  · refine X.iconst dX6_speaker_19 (pc' := 20) rfl ?_
    refine X.iret dX6_speaker_20 (Or.inl rfl) (Nat.le_of_ble_eq_true rfl) (Nat.le_of_ble_eq_true rfl) ?_
    subst hPR
    refine ⟨hFq, _, rfl, Or.inr ⟨?_, rfl, hL2⟩⟩
    rw [hM3]
    unfold py3
    (try unfold stOK)
    split <;> (try split) <;> (try split) <;> omega
set_option maxHeartbeats 4000000 in
set_option maxRecDepth 100000 in
theorem k_X6_message {Ω : xO} {h : xM} {m : Nat} {L : lS} {f u s : Int} (hL : ML h m L) (irf : inR f) (iru : inR u) (irs : inR s) : xCt Ω yX6_message cX6_message 4 (some .int) rm_X6_message [rf m, vi f, vi u, vi s] h (fun q h' => FM h h' m ∧ ∃ v, q = some (vi v) ∧ (((((0 ≤ f ∧ f < 6) ∧ (0 ≤ s ∧ s < 6)) ∧ (0 ≤ u ∧ u ≤ 9) ∧ (True)) ∧ mI h' m 3 = 0 ∧ v = how (lA L) f u s ∧ ML h' m (L)) ∨ (py3 ((0 ≤ f ∧ f < 6) ∧ (0 ≤ s ∧ s < 6)) (0 ≤ u ∧ u ≤ 9) (True) (mI h' m 3) ∧ v = 0 ∧ ML h' m L))) xNo := by
  refine xCt_of (ini := false) (by decide +kernel) (Nat.le_of_ble_eq_true rfl) (fun q => absurd q (by decide)) ?_
  generalize hPR : (fun q h' => FM h h' m ∧ ∃ v, q = some (vi v) ∧ (((((0 ≤ f ∧ f < 6) ∧ (0 ≤ s ∧ s < 6)) ∧ (0 ≤ u ∧ u ≤ 9) ∧ (True)) ∧ mI h' m 3 = 0 ∧ v = how (lA L) f u s ∧ ML h' m (L)) ∨ (py3 ((0 ≤ f ∧ f < 6) ∧ (0 ≤ s ∧ s < 6)) (0 ≤ u ∧ u ≤ 9) (True) (mI h' m 3) ∧ v = 0 ∧ ML h' m L)) : Option xV → xM → Prop) = PR
  have K0 : X Ω RX6 cX6_message 4 (some .int) false rm_X6_message PR xNo 0 0 0 [some (rf m), some (vi f), some (vi u), some (vi s)] [] h := ?_
  exact K0
  have hz := hL.2.2.1
  have hO := hL.2.2.2.2.2.2.2.2
  have hz6 := hO.2.2.1
  have hA : aOK (lA L) := hO.2.1.1
  have hM := hL.2.1
  obtain ⟨mSt, mB, mW, mWl, mWo, mCo, mHe⟩ := id hM
  obtain ⟨okB, okN, okWl, okS, okW, okM, okC, okH⟩ := id hA
  have hTn := hL.2.2.2.2.2.2.1
  have hTr := hO.2.2.2.2.1
  have hKf := hL.2.2.2.2.1
  have hKb := hO.2.2.2.1
  obtain ⟨irf1, irf2⟩ := irf
  obtain ⟨iru1, iru2⟩ := iru
  obtain ⟨irs1, irs2⟩ := irs
  refine X.aload_n (i := 0) rfl rfl dX6_message_0 (pc' := 1) rfl ?_
  refine X.iload_n (i := 1) rfl rfl dX6_message_1 (pc' := 2) rfl ?_
  refine X.callS (rm := rm_X6_isSeat) (As := [vi f]) (st := [rf m]) dX6_message_2 ck_X6_52 rfl rfl ⟨Nat.le_of_ble_eq_true rfl, Nat.le_of_ble_eq_true rfl⟩ (Nat.le_of_ble_eq_true rfl) (Nat.le_of_ble_eq_true rfl) (Nat.le_of_ble_eq_true rfl) (pc' := 5) rfl (k_X6_isSeat ⟨by omega, by omega⟩) (fun q1 hq1 eq1 => ?_) (fun _ _ x1 => x1.elim)
  obtain ⟨rfl, r2, rfl, hr2⟩ := eq1
  refine X.if_eq (tgt := 19) dX6_message_5 ⟨by omega, by omega⟩ (by decide) (pc' := 8) rfl (fun c5 => ?_) (fun c5 => ?_)
  · refine X.iconst dX6_message_19 (pc' := 20) rfl ?_
    refine X.iload_n (i := 2) rfl rfl dX6_message_20 (pc' := 21) rfl ?_
    refine X.iconst dX6_message_21 (pc' := 22) rfl ?_
    refine X.bipush (by decide +kernel) dX6_message_22 (pc' := 24) rfl ?_
    refine X.callS (rm := rm_X6_in) (As := [vi u, vi 0, vi 9]) (st := [vi 0, rf m]) dX6_message_24 ck_X6_32 rfl rfl ⟨Nat.le_of_ble_eq_true rfl, Nat.le_of_ble_eq_true rfl⟩ (Nat.le_of_ble_eq_true rfl) (Nat.le_of_ble_eq_true rfl) (Nat.le_of_ble_eq_true rfl) (pc' := 27) rfl (k_X6_in ⟨by omega, by omega⟩ ⟨by omega, by omega⟩ ⟨by omega, by omega⟩) (fun q3 hq3 eq3 => ?_) (fun _ _ x1 => x1.elim)
    obtain ⟨rfl, r4, rfl, hr4⟩ := eq3
    refine X.iconst dX6_message_27 (pc' := 28) rfl ?_
    refine X.callV (ci := 6) (a := m) (rm := rm_X6_goes) (As := [vi 0, vi r4, vi 1]) (st := []) dX6_message_28 ck_X6_60 rfl (by decide) hL.1.1 rfl rfl ⟨Nat.le_of_ble_eq_true rfl, Nat.le_of_ble_eq_true rfl⟩ (Nat.le_of_ble_eq_true rfl) (Nat.le_of_ble_eq_true rfl) (Nat.le_of_ble_eq_true rfl) (pc' := 31) rfl (k_X6_goes hL.1 (by omega) (by omega) (by omega)) (fun q5 hq5 eq5 => ?_) (fun _ _ x1 => x1.elim)
    obtain ⟨hG, r6, rfl, hr6⟩ := eq5
    have hM3 : mI hq5 m 3 = (if (0 : Int) = 0 then 1 else if (r4 : Int) = 0 then 2 else if (1 : Int) = 0 then 3 else 0) := by rw [hG, mI_sI, if_pos ⟨rfl, rfl⟩]
    have hFq : FM h hq5 m := by rw [hG]; exact FM.rf.w ⟨by omega, by omega⟩
    have hL2 : ML hq5 m L := hL.th hFq (by rw [hG]; funext j; rw [mI_sI, if_neg (by omega)]) (by rw [hG]; funext j; rw [mI_sI, if_neg (by omega)]) (fun j z => by rw [hG, mI_sI, if_neg (by omega)])
    refine X.if_ne (tgt := 36) dX6_message_31 ⟨by omega, by omega⟩ (by decide) (pc' := 34) rfl (fun c31 => ?_) (fun c31 => ?_)
    · refine X.aload_n (i := 0) rfl rfl dX6_message_36 (pc' := 37) rfl ?_
      refine X.iload_n (i := 1) rfl rfl dX6_message_37 (pc' := 38) rfl ?_
      refine X.iload_n (i := 2) rfl rfl dX6_message_38 (pc' := 39) rfl ?_
      refine X.iload_n (i := 3) rfl rfl dX6_message_39 (pc' := 40) rfl ?_
      refine X.callV (ci := 6) (a := m) (rm := rm_X6_how) (As := [vi f, vi u, vi s]) (st := []) dX6_message_40 ck_X6_157 rfl (by decide) hL2.1.1 rfl rfl ⟨Nat.le_of_ble_eq_true rfl, Nat.le_of_ble_eq_true rfl⟩ (Nat.le_of_ble_eq_true rfl) (Nat.le_of_ble_eq_true rfl) (Nat.le_of_ble_eq_true rfl) (pc' := 43) rfl (k_X6_how hL2.1 hL2.2.1 hA ⟨by omega, by omega⟩ ⟨by omega, by omega⟩ ⟨by omega, by omega⟩) (fun q7 hq7 eq7 => ?_) (fun _ _ x1 => x1.elim)
      obtain ⟨rfl, r8, rfl, hr8⟩ := eq7
      refine X.iret dX6_message_43 (Or.inl rfl) (Nat.le_of_ble_eq_true rfl) (Nat.le_of_ble_eq_true rfl) ?_
      subst hPR
      exact ⟨hFq, _, rfl, Or.inl ⟨⟨by first | trivial | omega, by first | trivial | omega, by first | trivial | omega⟩, by rw [hM3]; split <;> (try split) <;> (try split) <;> omega, hr8, hL2⟩⟩
    · refine X.iconst dX6_message_34 (pc' := 35) rfl ?_
      refine X.iret dX6_message_35 (Or.inl rfl) (Nat.le_of_ble_eq_true rfl) (Nat.le_of_ble_eq_true rfl) ?_
      subst hPR
      refine ⟨hFq, _, rfl, Or.inr ⟨?_, rfl, hL2⟩⟩
      rw [hM3]
      unfold py3
      (try unfold stOK)
      split <;> (try split) <;> (try split) <;> omega
  · refine X.iload_n (i := 3) rfl rfl dX6_message_8 (pc' := 9) rfl ?_
    refine X.callS (rm := rm_X6_isSeat) (As := [vi s]) (st := [rf m]) dX6_message_9 ck_X6_52 rfl rfl ⟨Nat.le_of_ble_eq_true rfl, Nat.le_of_ble_eq_true rfl⟩ (Nat.le_of_ble_eq_true rfl) (Nat.le_of_ble_eq_true rfl) (Nat.le_of_ble_eq_true rfl) (pc' := 12) rfl (k_X6_isSeat ⟨by omega, by omega⟩) (fun q9 hq9 eq9 => ?_) (fun _ _ x1 => x1.elim)
    obtain ⟨rfl, r10, rfl, hr10⟩ := eq9
    refine X.if_eq (tgt := 19) dX6_message_12 ⟨by omega, by omega⟩ (by decide) (pc' := 15) rfl (fun c12 => ?_) (fun c12 => ?_)
    · refine X.iconst dX6_message_19 (pc' := 20) rfl ?_
      refine X.iload_n (i := 2) rfl rfl dX6_message_20 (pc' := 21) rfl ?_
      refine X.iconst dX6_message_21 (pc' := 22) rfl ?_
      refine X.bipush (by decide +kernel) dX6_message_22 (pc' := 24) rfl ?_
      refine X.callS (rm := rm_X6_in) (As := [vi u, vi 0, vi 9]) (st := [vi 0, rf m]) dX6_message_24 ck_X6_32 rfl rfl ⟨Nat.le_of_ble_eq_true rfl, Nat.le_of_ble_eq_true rfl⟩ (Nat.le_of_ble_eq_true rfl) (Nat.le_of_ble_eq_true rfl) (Nat.le_of_ble_eq_true rfl) (pc' := 27) rfl (k_X6_in ⟨by omega, by omega⟩ ⟨by omega, by omega⟩ ⟨by omega, by omega⟩) (fun q11 hq11 eq11 => ?_) (fun _ _ x1 => x1.elim)
      obtain ⟨rfl, r12, rfl, hr12⟩ := eq11
      refine X.iconst dX6_message_27 (pc' := 28) rfl ?_
      refine X.callV (ci := 6) (a := m) (rm := rm_X6_goes) (As := [vi 0, vi r12, vi 1]) (st := []) dX6_message_28 ck_X6_60 rfl (by decide) hL.1.1 rfl rfl ⟨Nat.le_of_ble_eq_true rfl, Nat.le_of_ble_eq_true rfl⟩ (Nat.le_of_ble_eq_true rfl) (Nat.le_of_ble_eq_true rfl) (Nat.le_of_ble_eq_true rfl) (pc' := 31) rfl (k_X6_goes hL.1 (by omega) (by omega) (by omega)) (fun q13 hq13 eq13 => ?_) (fun _ _ x1 => x1.elim)
      obtain ⟨hG, r14, rfl, hr14⟩ := eq13
      have hM3 : mI hq13 m 3 = (if (0 : Int) = 0 then 1 else if (r12 : Int) = 0 then 2 else if (1 : Int) = 0 then 3 else 0) := by rw [hG, mI_sI, if_pos ⟨rfl, rfl⟩]
      have hFq : FM h hq13 m := by rw [hG]; exact FM.rf.w ⟨by omega, by omega⟩
      have hL2 : ML hq13 m L := hL.th hFq (by rw [hG]; funext j; rw [mI_sI, if_neg (by omega)]) (by rw [hG]; funext j; rw [mI_sI, if_neg (by omega)]) (fun j z => by rw [hG, mI_sI, if_neg (by omega)])
      refine X.if_ne (tgt := 36) dX6_message_31 ⟨by omega, by omega⟩ (by decide) (pc' := 34) rfl (fun c31 => ?_) (fun c31 => ?_)
      · refine X.aload_n (i := 0) rfl rfl dX6_message_36 (pc' := 37) rfl ?_
        refine X.iload_n (i := 1) rfl rfl dX6_message_37 (pc' := 38) rfl ?_
        refine X.iload_n (i := 2) rfl rfl dX6_message_38 (pc' := 39) rfl ?_
        refine X.iload_n (i := 3) rfl rfl dX6_message_39 (pc' := 40) rfl ?_
        refine X.callV (ci := 6) (a := m) (rm := rm_X6_how) (As := [vi f, vi u, vi s]) (st := []) dX6_message_40 ck_X6_157 rfl (by decide) hL2.1.1 rfl rfl ⟨Nat.le_of_ble_eq_true rfl, Nat.le_of_ble_eq_true rfl⟩ (Nat.le_of_ble_eq_true rfl) (Nat.le_of_ble_eq_true rfl) (Nat.le_of_ble_eq_true rfl) (pc' := 43) rfl (k_X6_how hL2.1 hL2.2.1 hA ⟨by omega, by omega⟩ ⟨by omega, by omega⟩ ⟨by omega, by omega⟩) (fun q15 hq15 eq15 => ?_) (fun _ _ x1 => x1.elim)
        obtain ⟨rfl, r16, rfl, hr16⟩ := eq15
        refine X.iret dX6_message_43 (Or.inl rfl) (Nat.le_of_ble_eq_true rfl) (Nat.le_of_ble_eq_true rfl) ?_
        subst hPR
        exact ⟨hFq, _, rfl, Or.inl ⟨⟨by first | trivial | omega, by first | trivial | omega, by first | trivial | omega⟩, by rw [hM3]; split <;> (try split) <;> (try split) <;> omega, hr16, hL2⟩⟩
      · refine X.iconst dX6_message_34 (pc' := 35) rfl ?_
        refine X.iret dX6_message_35 (Or.inl rfl) (Nat.le_of_ble_eq_true rfl) (Nat.le_of_ble_eq_true rfl) ?_
        subst hPR
        refine ⟨hFq, _, rfl, Or.inr ⟨?_, rfl, hL2⟩⟩
        rw [hM3]
        unfold py3
        (try unfold stOK)
        split <;> (try split) <;> (try split) <;> omega
    · refine X.iconst dX6_message_15 (pc' := 16) rfl ?_
      refine X.goto (tgt := 20) dX6_message_16 (by decide) ?_
      refine X.iload_n (i := 2) rfl rfl dX6_message_20 (pc' := 21) rfl ?_
      refine X.iconst dX6_message_21 (pc' := 22) rfl ?_
      refine X.bipush (by decide +kernel) dX6_message_22 (pc' := 24) rfl ?_
      refine X.callS (rm := rm_X6_in) (As := [vi u, vi 0, vi 9]) (st := [vi 1, rf m]) dX6_message_24 ck_X6_32 rfl rfl ⟨Nat.le_of_ble_eq_true rfl, Nat.le_of_ble_eq_true rfl⟩ (Nat.le_of_ble_eq_true rfl) (Nat.le_of_ble_eq_true rfl) (Nat.le_of_ble_eq_true rfl) (pc' := 27) rfl (k_X6_in ⟨by omega, by omega⟩ ⟨by omega, by omega⟩ ⟨by omega, by omega⟩) (fun q17 hq17 eq17 => ?_) (fun _ _ x1 => x1.elim)
      obtain ⟨rfl, r18, rfl, hr18⟩ := eq17
      refine X.iconst dX6_message_27 (pc' := 28) rfl ?_
      refine X.callV (ci := 6) (a := m) (rm := rm_X6_goes) (As := [vi 1, vi r18, vi 1]) (st := []) dX6_message_28 ck_X6_60 rfl (by decide) hL.1.1 rfl rfl ⟨Nat.le_of_ble_eq_true rfl, Nat.le_of_ble_eq_true rfl⟩ (Nat.le_of_ble_eq_true rfl) (Nat.le_of_ble_eq_true rfl) (Nat.le_of_ble_eq_true rfl) (pc' := 31) rfl (k_X6_goes hL.1 (by omega) (by omega) (by omega)) (fun q19 hq19 eq19 => ?_) (fun _ _ x1 => x1.elim)
      obtain ⟨hG, r20, rfl, hr20⟩ := eq19
      have hM3 : mI hq19 m 3 = (if (1 : Int) = 0 then 1 else if (r18 : Int) = 0 then 2 else if (1 : Int) = 0 then 3 else 0) := by rw [hG, mI_sI, if_pos ⟨rfl, rfl⟩]
      have hFq : FM h hq19 m := by rw [hG]; exact FM.rf.w ⟨by omega, by omega⟩
      have hL2 : ML hq19 m L := hL.th hFq (by rw [hG]; funext j; rw [mI_sI, if_neg (by omega)]) (by rw [hG]; funext j; rw [mI_sI, if_neg (by omega)]) (fun j z => by rw [hG, mI_sI, if_neg (by omega)])
      refine X.if_ne (tgt := 36) dX6_message_31 ⟨by omega, by omega⟩ (by decide) (pc' := 34) rfl (fun c31 => ?_) (fun c31 => ?_)
      · refine X.aload_n (i := 0) rfl rfl dX6_message_36 (pc' := 37) rfl ?_
        refine X.iload_n (i := 1) rfl rfl dX6_message_37 (pc' := 38) rfl ?_
        refine X.iload_n (i := 2) rfl rfl dX6_message_38 (pc' := 39) rfl ?_
        refine X.iload_n (i := 3) rfl rfl dX6_message_39 (pc' := 40) rfl ?_
        refine X.callV (ci := 6) (a := m) (rm := rm_X6_how) (As := [vi f, vi u, vi s]) (st := []) dX6_message_40 ck_X6_157 rfl (by decide) hL2.1.1 rfl rfl ⟨Nat.le_of_ble_eq_true rfl, Nat.le_of_ble_eq_true rfl⟩ (Nat.le_of_ble_eq_true rfl) (Nat.le_of_ble_eq_true rfl) (Nat.le_of_ble_eq_true rfl) (pc' := 43) rfl (k_X6_how hL2.1 hL2.2.1 hA ⟨by omega, by omega⟩ ⟨by omega, by omega⟩ ⟨by omega, by omega⟩) (fun q21 hq21 eq21 => ?_) (fun _ _ x1 => x1.elim)
        obtain ⟨rfl, r22, rfl, hr22⟩ := eq21
        refine X.iret dX6_message_43 (Or.inl rfl) (Nat.le_of_ble_eq_true rfl) (Nat.le_of_ble_eq_true rfl) ?_
        subst hPR
        exact ⟨hFq, _, rfl, Or.inl ⟨⟨by first | trivial | omega, by first | trivial | omega, by first | trivial | omega⟩, by rw [hM3]; split <;> (try split) <;> (try split) <;> omega, hr22, hL2⟩⟩
      · refine X.iconst dX6_message_34 (pc' := 35) rfl ?_
        refine X.iret dX6_message_35 (Or.inl rfl) (Nat.le_of_ble_eq_true rfl) (Nat.le_of_ble_eq_true rfl) ?_
        subst hPR
        refine ⟨hFq, _, rfl, Or.inr ⟨?_, rfl, hL2⟩⟩
        rw [hM3]
        unfold py3
        (try unfold stOK)
        split <;> (try split) <;> (try split) <;> omega
set_option maxHeartbeats 4000000 in
set_option maxRecDepth 100000 in
theorem k_X6_count {Ω : xO} {h : xM} {m : Nat} {L : lS} {w : Int} (hL : ML h m L) (irw : inR w) : xCt Ω yX6_count cX6_count 2 (some .int) rm_X6_count [rf m, vi w] h (fun q h' => FM h h' m ∧ ∃ v, q = some (vi v) ∧ ((((0 ≤ w ∧ w ≤ 9) ∧ (True) ∧ (True)) ∧ mI h' m 3 = 0 ∧ v = (if w = 9 then lZ L else oAl (lA L) w) ∧ ML h' m (L)) ∨ (py3 (0 ≤ w ∧ w ≤ 9) (True) (True) (mI h' m 3) ∧ v = 0 ∧ ML h' m L))) xNo := by
  refine xCt_of (ini := false) (by decide +kernel) (Nat.le_of_ble_eq_true rfl) (fun q => absurd q (by decide)) ?_
  generalize hPR : (fun q h' => FM h h' m ∧ ∃ v, q = some (vi v) ∧ ((((0 ≤ w ∧ w ≤ 9) ∧ (True) ∧ (True)) ∧ mI h' m 3 = 0 ∧ v = (if w = 9 then lZ L else oAl (lA L) w) ∧ ML h' m (L)) ∨ (py3 (0 ≤ w ∧ w ≤ 9) (True) (True) (mI h' m 3) ∧ v = 0 ∧ ML h' m L)) : Option xV → xM → Prop) = PR
  have K0 : X Ω RX6 cX6_count 2 (some .int) false rm_X6_count PR xNo 0 0 0 [some (rf m), some (vi w)] [] h := ?_
  exact K0
  have hz := hL.2.2.1
  have hO := hL.2.2.2.2.2.2.2.2
  have hz6 := hO.2.2.1
  have hA : aOK (lA L) := hO.2.1.1
  have hM := hL.2.1
  obtain ⟨mSt, mB, mW, mWl, mWo, mCo, mHe⟩ := id hM
  obtain ⟨okB, okN, okWl, okS, okW, okM, okC, okH⟩ := id hA
  have hTn := hL.2.2.2.2.2.2.1
  have hTr := hO.2.2.2.2.1
  have hKf := hL.2.2.2.2.1
  have hKb := hO.2.2.2.1
  obtain ⟨irw1, irw2⟩ := irw
  refine X.aload_n (i := 0) rfl rfl dX6_count_0 (pc' := 1) rfl ?_
  refine X.iload_n (i := 1) rfl rfl dX6_count_1 (pc' := 2) rfl ?_
  refine X.iconst dX6_count_2 (pc' := 3) rfl ?_
  refine X.bipush (by decide +kernel) dX6_count_3 (pc' := 5) rfl ?_
  refine X.callS (rm := rm_X6_in) (As := [vi w, vi 0, vi 9]) (st := [rf m]) dX6_count_5 ck_X6_32 rfl rfl ⟨Nat.le_of_ble_eq_true rfl, Nat.le_of_ble_eq_true rfl⟩ (Nat.le_of_ble_eq_true rfl) (Nat.le_of_ble_eq_true rfl) (Nat.le_of_ble_eq_true rfl) (pc' := 8) rfl (k_X6_in ⟨by omega, by omega⟩ ⟨by omega, by omega⟩ ⟨by omega, by omega⟩) (fun q1 hq1 eq1 => ?_) (fun _ _ x1 => x1.elim)
  obtain ⟨rfl, r2, rfl, hr2⟩ := eq1
  refine X.iconst dX6_count_8 (pc' := 9) rfl ?_
  refine X.iconst dX6_count_9 (pc' := 10) rfl ?_
  refine X.callV (ci := 6) (a := m) (rm := rm_X6_goes) (As := [vi r2, vi 1, vi 1]) (st := []) dX6_count_10 ck_X6_60 rfl (by decide) hL.1.1 rfl rfl ⟨Nat.le_of_ble_eq_true rfl, Nat.le_of_ble_eq_true rfl⟩ (Nat.le_of_ble_eq_true rfl) (Nat.le_of_ble_eq_true rfl) (Nat.le_of_ble_eq_true rfl) (pc' := 13) rfl (k_X6_goes hL.1 (by omega) (by omega) (by omega)) (fun q3 hq3 eq3 => ?_) (fun _ _ x1 => x1.elim)
  obtain ⟨hG, r4, rfl, hr4⟩ := eq3
  have hM3 : mI hq3 m 3 = (if (r2 : Int) = 0 then 1 else if (1 : Int) = 0 then 2 else if (1 : Int) = 0 then 3 else 0) := by rw [hG, mI_sI, if_pos ⟨rfl, rfl⟩]
  have hFq : FM h hq3 m := by rw [hG]; exact FM.rf.w ⟨by omega, by omega⟩
  have hL2 : ML hq3 m L := hL.th hFq (by rw [hG]; funext j; rw [mI_sI, if_neg (by omega)]) (by rw [hG]; funext j; rw [mI_sI, if_neg (by omega)]) (fun j z => by rw [hG, mI_sI, if_neg (by omega)])
  refine X.if_ne (tgt := 18) dX6_count_13 ⟨by omega, by omega⟩ (by decide) (pc' := 16) rfl (fun c13 => ?_) (fun c13 => ?_)
  · refine X.aload_n (i := 0) rfl rfl dX6_count_18 (pc' := 19) rfl ?_
    refine X.iload_n (i := 1) rfl rfl dX6_count_19 (pc' := 20) rfl ?_
    refine X.callV (ci := 6) (a := m) (rm := rm_X6_counted) (As := [vi w]) (st := []) dX6_count_20 ck_X6_167 rfl (by decide) hL2.1.1 rfl rfl ⟨Nat.le_of_ble_eq_true rfl, Nat.le_of_ble_eq_true rfl⟩ (Nat.le_of_ble_eq_true rfl) (Nat.le_of_ble_eq_true rfl) (Nat.le_of_ble_eq_true rfl) (pc' := 23) rfl (k_X6_counted hL2 ⟨by omega, by omega⟩) (fun q5 hq5 eq5 => ?_) (fun _ _ x1 => x1.elim)
    obtain ⟨rfl, r6, rfl, hr6⟩ := eq5
    refine X.iret dX6_count_23 (Or.inl rfl) (Nat.le_of_ble_eq_true rfl) (Nat.le_of_ble_eq_true rfl) ?_
    subst hPR
    exact ⟨hFq, _, rfl, Or.inl ⟨⟨by first | trivial | omega, by first | trivial | omega, by first | trivial | omega⟩, by rw [hM3]; split <;> (try split) <;> (try split) <;> omega, hr6, hL2⟩⟩
  · refine X.iconst dX6_count_16 (pc' := 17) rfl ?_
    refine X.iret dX6_count_17 (Or.inl rfl) (Nat.le_of_ble_eq_true rfl) (Nat.le_of_ble_eq_true rfl) ?_
    subst hPR
    refine ⟨hFq, _, rfl, Or.inr ⟨?_, rfl, hL2⟩⟩
    rw [hM3]
    unfold py3
    (try unfold stOK)
    split <;> (try split) <;> (try split) <;> omega
set_option maxHeartbeats 4000000 in
set_option maxRecDepth 100000 in
theorem k_X6_whyNot {Ω : xO} {h : xM} {m : Nat} {L : lS} {n s : Int} (hL : ML h m L) (irn : inR n) (irs : inR s) : xCt Ω yX6_whyNot cX6_whyNot 3 (some .int) rm_X6_whyNot [rf m, vi n, vi s] h (fun q h' => FM h h' m ∧ ∃ v, q = some (vi v) ∧ (((((0 ≤ s ∧ s < 6)) ∧ (0 ≤ n) ∧ (True)) ∧ mI h' m 3 = 0 ∧ v = (if n < aW (lA L) then why (lA L) n s else -1) ∧ ML h' m (L)) ∨ (py3 ((0 ≤ s ∧ s < 6)) (0 ≤ n) (True) (mI h' m 3) ∧ v = 0 ∧ ML h' m L))) xNo := by
  refine xCt_of (ini := false) (by decide +kernel) (Nat.le_of_ble_eq_true rfl) (fun q => absurd q (by decide)) ?_
  generalize hPR : (fun q h' => FM h h' m ∧ ∃ v, q = some (vi v) ∧ (((((0 ≤ s ∧ s < 6)) ∧ (0 ≤ n) ∧ (True)) ∧ mI h' m 3 = 0 ∧ v = (if n < aW (lA L) then why (lA L) n s else -1) ∧ ML h' m (L)) ∨ (py3 ((0 ≤ s ∧ s < 6)) (0 ≤ n) (True) (mI h' m 3) ∧ v = 0 ∧ ML h' m L)) : Option xV → xM → Prop) = PR
  have K0 : X Ω RX6 cX6_whyNot 3 (some .int) false rm_X6_whyNot PR xNo 0 0 0 [some (rf m), some (vi n), some (vi s)] [] h := ?_
  exact K0
  have hz := hL.2.2.1
  have hO := hL.2.2.2.2.2.2.2.2
  have hz6 := hO.2.2.1
  have hA : aOK (lA L) := hO.2.1.1
  have hM := hL.2.1
  obtain ⟨mSt, mB, mW, mWl, mWo, mCo, mHe⟩ := id hM
  obtain ⟨okB, okN, okWl, okS, okW, okM, okC, okH⟩ := id hA
  have hTn := hL.2.2.2.2.2.2.1
  have hTr := hO.2.2.2.2.1
  have hKf := hL.2.2.2.2.1
  have hKb := hO.2.2.2.1
  obtain ⟨irn1, irn2⟩ := irn
  obtain ⟨irs1, irs2⟩ := irs
  refine X.aload_n (i := 0) rfl rfl dX6_whyNot_0 (pc' := 1) rfl ?_
  refine X.iload_n (i := 2) rfl rfl dX6_whyNot_1 (pc' := 2) rfl ?_
  refine X.callS (rm := rm_X6_isSeat) (As := [vi s]) (st := [rf m]) dX6_whyNot_2 ck_X6_52 rfl rfl ⟨Nat.le_of_ble_eq_true rfl, Nat.le_of_ble_eq_true rfl⟩ (Nat.le_of_ble_eq_true rfl) (Nat.le_of_ble_eq_true rfl) (Nat.le_of_ble_eq_true rfl) (pc' := 5) rfl (k_X6_isSeat ⟨by omega, by omega⟩) (fun q1 hq1 eq1 => ?_) (fun _ _ x1 => x1.elim)
  obtain ⟨rfl, r2, rfl, hr2⟩ := eq1
  refine X.iload_n (i := 1) rfl rfl dX6_whyNot_5 (pc' := 6) rfl ?_
  refine X.if_lt (tgt := 13) dX6_whyNot_6 ⟨by omega, by omega⟩ (by decide) (pc' := 9) rfl (fun c6 => ?_) (fun c6 => ?_)
  · refine X.iconst dX6_whyNot_13 (pc' := 14) rfl ?_
    refine X.iconst dX6_whyNot_14 (pc' := 15) rfl ?_
    refine X.callV (ci := 6) (a := m) (rm := rm_X6_goes) (As := [vi r2, vi 0, vi 1]) (st := []) dX6_whyNot_15 ck_X6_60 rfl (by decide) hL.1.1 rfl rfl ⟨Nat.le_of_ble_eq_true rfl, Nat.le_of_ble_eq_true rfl⟩ (Nat.le_of_ble_eq_true rfl) (Nat.le_of_ble_eq_true rfl) (Nat.le_of_ble_eq_true rfl) (pc' := 18) rfl (k_X6_goes hL.1 (by omega) (by omega) (by omega)) (fun q3 hq3 eq3 => ?_) (fun _ _ x1 => x1.elim)
    obtain ⟨hG, r4, rfl, hr4⟩ := eq3
    have hM3 : mI hq3 m 3 = (if (r2 : Int) = 0 then 1 else if (0 : Int) = 0 then 2 else if (1 : Int) = 0 then 3 else 0) := by rw [hG, mI_sI, if_pos ⟨rfl, rfl⟩]
    have hFq : FM h hq3 m := by rw [hG]; exact FM.rf.w ⟨by omega, by omega⟩
    have hL2 : ML hq3 m L := hL.th hFq (by rw [hG]; funext j; rw [mI_sI, if_neg (by omega)]) (by rw [hG]; funext j; rw [mI_sI, if_neg (by omega)]) (fun j z => by rw [hG, mI_sI, if_neg (by omega)])
    refine X.if_ne (tgt := 23) dX6_whyNot_18 ⟨by omega, by omega⟩ (by decide) (pc' := 21) rfl (fun c18 => ?_) (fun c18 => ?_)
    · refine X.aload_n (i := 0) rfl rfl dX6_whyNot_23 (pc' := 24) rfl ?_
      refine X.iload_n (i := 1) rfl rfl dX6_whyNot_24 (pc' := 25) rfl ?_
      refine X.iload_n (i := 2) rfl rfl dX6_whyNot_25 (pc' := 26) rfl ?_
      refine X.callV (ci := 6) (a := m) (rm := rm_X6_reason) (As := [vi n, vi s]) (st := []) dX6_whyNot_26 ck_X6_170 rfl (by decide) hL2.1.1 rfl rfl ⟨Nat.le_of_ble_eq_true rfl, Nat.le_of_ble_eq_true rfl⟩ (Nat.le_of_ble_eq_true rfl) (Nat.le_of_ble_eq_true rfl) (Nat.le_of_ble_eq_true rfl) (pc' := 29) rfl (k_X6_reason hL2.1 hL2.2.1 hA ⟨by omega, by omega⟩ ⟨by omega, by omega⟩) (fun q5 hq5 eq5 => ?_) (fun _ _ x1 => x1.elim)
      obtain ⟨rfl, r6, rfl, hr6⟩ := eq5
      refine X.iret dX6_whyNot_29 (Or.inl rfl) (Nat.le_of_ble_eq_true rfl) (Nat.le_of_ble_eq_true rfl) ?_
      subst hPR
      exact ⟨hFq, _, rfl, Or.inl ⟨⟨by first | trivial | omega, by first | trivial | omega, by first | trivial | omega⟩, by rw [hM3]; split <;> (try split) <;> (try split) <;> omega, hr6, hL2⟩⟩
    · refine X.iconst dX6_whyNot_21 (pc' := 22) rfl ?_
      refine X.iret dX6_whyNot_22 (Or.inl rfl) (Nat.le_of_ble_eq_true rfl) (Nat.le_of_ble_eq_true rfl) ?_
      subst hPR
      refine ⟨hFq, _, rfl, Or.inr ⟨?_, rfl, hL2⟩⟩
      rw [hM3]
      unfold py3
      (try unfold stOK)
      split <;> (try split) <;> (try split) <;> omega
  · refine X.iconst dX6_whyNot_9 (pc' := 10) rfl ?_
    refine X.goto (tgt := 14) dX6_whyNot_10 (by decide) ?_
    refine X.iconst dX6_whyNot_14 (pc' := 15) rfl ?_
    refine X.callV (ci := 6) (a := m) (rm := rm_X6_goes) (As := [vi r2, vi 1, vi 1]) (st := []) dX6_whyNot_15 ck_X6_60 rfl (by decide) hL.1.1 rfl rfl ⟨Nat.le_of_ble_eq_true rfl, Nat.le_of_ble_eq_true rfl⟩ (Nat.le_of_ble_eq_true rfl) (Nat.le_of_ble_eq_true rfl) (Nat.le_of_ble_eq_true rfl) (pc' := 18) rfl (k_X6_goes hL.1 (by omega) (by omega) (by omega)) (fun q7 hq7 eq7 => ?_) (fun _ _ x1 => x1.elim)
    obtain ⟨hG, r8, rfl, hr8⟩ := eq7
    have hM3 : mI hq7 m 3 = (if (r2 : Int) = 0 then 1 else if (1 : Int) = 0 then 2 else if (1 : Int) = 0 then 3 else 0) := by rw [hG, mI_sI, if_pos ⟨rfl, rfl⟩]
    have hFq : FM h hq7 m := by rw [hG]; exact FM.rf.w ⟨by omega, by omega⟩
    have hL2 : ML hq7 m L := hL.th hFq (by rw [hG]; funext j; rw [mI_sI, if_neg (by omega)]) (by rw [hG]; funext j; rw [mI_sI, if_neg (by omega)]) (fun j z => by rw [hG, mI_sI, if_neg (by omega)])
    refine X.if_ne (tgt := 23) dX6_whyNot_18 ⟨by omega, by omega⟩ (by decide) (pc' := 21) rfl (fun c18 => ?_) (fun c18 => ?_)
    · refine X.aload_n (i := 0) rfl rfl dX6_whyNot_23 (pc' := 24) rfl ?_
      refine X.iload_n (i := 1) rfl rfl dX6_whyNot_24 (pc' := 25) rfl ?_
      refine X.iload_n (i := 2) rfl rfl dX6_whyNot_25 (pc' := 26) rfl ?_
      refine X.callV (ci := 6) (a := m) (rm := rm_X6_reason) (As := [vi n, vi s]) (st := []) dX6_whyNot_26 ck_X6_170 rfl (by decide) hL2.1.1 rfl rfl ⟨Nat.le_of_ble_eq_true rfl, Nat.le_of_ble_eq_true rfl⟩ (Nat.le_of_ble_eq_true rfl) (Nat.le_of_ble_eq_true rfl) (Nat.le_of_ble_eq_true rfl) (pc' := 29) rfl (k_X6_reason hL2.1 hL2.2.1 hA ⟨by omega, by omega⟩ ⟨by omega, by omega⟩) (fun q9 hq9 eq9 => ?_) (fun _ _ x1 => x1.elim)
      obtain ⟨rfl, r10, rfl, hr10⟩ := eq9
      refine X.iret dX6_whyNot_29 (Or.inl rfl) (Nat.le_of_ble_eq_true rfl) (Nat.le_of_ble_eq_true rfl) ?_
      subst hPR
      exact ⟨hFq, _, rfl, Or.inl ⟨⟨by first | trivial | omega, by first | trivial | omega, by first | trivial | omega⟩, by rw [hM3]; split <;> (try split) <;> (try split) <;> omega, hr10, hL2⟩⟩
    · refine X.iconst dX6_whyNot_21 (pc' := 22) rfl ?_
      refine X.iret dX6_whyNot_22 (Or.inl rfl) (Nat.le_of_ble_eq_true rfl) (Nat.le_of_ble_eq_true rfl) ?_
      subst hPR
      refine ⟨hFq, _, rfl, Or.inr ⟨?_, rfl, hL2⟩⟩
      rw [hM3]
      unfold py3
      (try unfold stOK)
      split <;> (try split) <;> (try split) <;> omega
set_option maxHeartbeats 4000000 in
set_option maxRecDepth 100000 in
theorem k_X6_ifSilent {Ω : xO} {h : xM} {m : Nat} {L : lS} {s : Int} (hL : ML h m L) (irs : inR s) : xCt Ω yX6_ifSilent cX6_ifSilent 2 (some .int) rm_X6_ifSilent [rf m, vi s] h (fun q h' => FM h h' m ∧ ∃ v, q = some (vi v) ∧ (((((0 ≤ s ∧ s < 6)) ∧ (True) ∧ (True)) ∧ mI h' m 3 = 0 ∧ v = vce (lA L) s (aB (lA L)) ∧ ML h' m (L)) ∨ (py3 ((0 ≤ s ∧ s < 6)) (True) (True) (mI h' m 3) ∧ v = 0 ∧ ML h' m L))) xNo := by
  refine xCt_of (ini := false) (by decide +kernel) (Nat.le_of_ble_eq_true rfl) (fun q => absurd q (by decide)) ?_
  generalize hPR : (fun q h' => FM h h' m ∧ ∃ v, q = some (vi v) ∧ (((((0 ≤ s ∧ s < 6)) ∧ (True) ∧ (True)) ∧ mI h' m 3 = 0 ∧ v = vce (lA L) s (aB (lA L)) ∧ ML h' m (L)) ∨ (py3 ((0 ≤ s ∧ s < 6)) (True) (True) (mI h' m 3) ∧ v = 0 ∧ ML h' m L)) : Option xV → xM → Prop) = PR
  have K0 : X Ω RX6 cX6_ifSilent 2 (some .int) false rm_X6_ifSilent PR xNo 0 0 0 [some (rf m), some (vi s)] [] h := ?_
  exact K0
  have hz := hL.2.2.1
  have hO := hL.2.2.2.2.2.2.2.2
  have hz6 := hO.2.2.1
  have hA : aOK (lA L) := hO.2.1.1
  have hM := hL.2.1
  obtain ⟨mSt, mB, mW, mWl, mWo, mCo, mHe⟩ := id hM
  obtain ⟨okB, okN, okWl, okS, okW, okM, okC, okH⟩ := id hA
  have hTn := hL.2.2.2.2.2.2.1
  have hTr := hO.2.2.2.2.1
  have hKf := hL.2.2.2.2.1
  have hKb := hO.2.2.2.1
  obtain ⟨irs1, irs2⟩ := irs
  refine X.aload_n (i := 0) rfl rfl dX6_ifSilent_0 (pc' := 1) rfl ?_
  refine X.iload_n (i := 1) rfl rfl dX6_ifSilent_1 (pc' := 2) rfl ?_
  refine X.callS (rm := rm_X6_isSeat) (As := [vi s]) (st := [rf m]) dX6_ifSilent_2 ck_X6_52 rfl rfl ⟨Nat.le_of_ble_eq_true rfl, Nat.le_of_ble_eq_true rfl⟩ (Nat.le_of_ble_eq_true rfl) (Nat.le_of_ble_eq_true rfl) (Nat.le_of_ble_eq_true rfl) (pc' := 5) rfl (k_X6_isSeat ⟨by omega, by omega⟩) (fun q1 hq1 eq1 => ?_) (fun _ _ x1 => x1.elim)
  obtain ⟨rfl, r2, rfl, hr2⟩ := eq1
  refine X.iconst dX6_ifSilent_5 (pc' := 6) rfl ?_
  refine X.iconst dX6_ifSilent_6 (pc' := 7) rfl ?_
  refine X.callV (ci := 6) (a := m) (rm := rm_X6_goes) (As := [vi r2, vi 1, vi 1]) (st := []) dX6_ifSilent_7 ck_X6_60 rfl (by decide) hL.1.1 rfl rfl ⟨Nat.le_of_ble_eq_true rfl, Nat.le_of_ble_eq_true rfl⟩ (Nat.le_of_ble_eq_true rfl) (Nat.le_of_ble_eq_true rfl) (Nat.le_of_ble_eq_true rfl) (pc' := 10) rfl (k_X6_goes hL.1 (by omega) (by omega) (by omega)) (fun q3 hq3 eq3 => ?_) (fun _ _ x1 => x1.elim)
  obtain ⟨hG, r4, rfl, hr4⟩ := eq3
  have hM3 : mI hq3 m 3 = (if (r2 : Int) = 0 then 1 else if (1 : Int) = 0 then 2 else if (1 : Int) = 0 then 3 else 0) := by rw [hG, mI_sI, if_pos ⟨rfl, rfl⟩]
  have hFq : FM h hq3 m := by rw [hG]; exact FM.rf.w ⟨by omega, by omega⟩
  have hL2 : ML hq3 m L := hL.th hFq (by rw [hG]; funext j; rw [mI_sI, if_neg (by omega)]) (by rw [hG]; funext j; rw [mI_sI, if_neg (by omega)]) (fun j z => by rw [hG, mI_sI, if_neg (by omega)])
  refine X.if_ne (tgt := 15) dX6_ifSilent_10 ⟨by omega, by omega⟩ (by decide) (pc' := 13) rfl (fun c10 => ?_) (fun c10 => ?_)
  · refine X.aload_n (i := 0) rfl rfl dX6_ifSilent_15 (pc' := 16) rfl ?_
    refine X.iload_n (i := 1) rfl rfl dX6_ifSilent_16 (pc' := 17) rfl ?_
    refine X.aload_n (i := 0) rfl rfl dX6_ifSilent_17 (pc' := 18) rfl ?_
    refine X.getR fk_X6_8 xcl_6 dX6_ifSilent_18 hL2.1.1 hL2.1.2.1 (pc' := 21) rfl ?_
    refine X.iconst dX6_ifSilent_21 (pc' := 22) rfl ?_
    refine X.iald (x := aB (lA L)) dX6_ifSilent_22 hL2.1.2.2.1 (by omega) (by omega) ⟨by omega, by omega⟩ (mI_at hL2.2.1.2.1 (by omega)) (pc' := 23) rfl (fun r5 => ?_)
    obtain ⟨r5a, r5b⟩ := r5
    refine X.callV (ci := 6) (a := m) (rm := rm_X6_voice) (As := [vi s, vi (aB (lA L))]) (st := []) dX6_ifSilent_23 ck_X6_43 rfl (by decide) hL2.1.1 rfl rfl ⟨Nat.le_of_ble_eq_true rfl, Nat.le_of_ble_eq_true rfl⟩ (Nat.le_of_ble_eq_true rfl) (Nat.le_of_ble_eq_true rfl) (Nat.le_of_ble_eq_true rfl) (pc' := 26) rfl (k_X6_voice hL2.1 hL2.2.1 hA ⟨by omega, by omega⟩ ⟨by omega, by omega⟩) (fun q6 hq6 eq6 => ?_) (fun _ _ x1 => x1.elim)
    obtain ⟨rfl, r7, rfl, hr7⟩ := eq6
    refine X.iret dX6_ifSilent_26 (Or.inl rfl) (Nat.le_of_ble_eq_true rfl) (Nat.le_of_ble_eq_true rfl) ?_
    subst hPR
    exact ⟨hFq, _, rfl, Or.inl ⟨⟨by first | trivial | omega, by first | trivial | omega, by first | trivial | omega⟩, by rw [hM3]; split <;> (try split) <;> (try split) <;> omega, hr7, hL2⟩⟩
  · refine X.iconst dX6_ifSilent_13 (pc' := 14) rfl ?_
    refine X.iret dX6_ifSilent_14 (Or.inl rfl) (Nat.le_of_ble_eq_true rfl) (Nat.le_of_ble_eq_true rfl) ?_
    subst hPR
    refine ⟨hFq, _, rfl, Or.inr ⟨?_, rfl, hL2⟩⟩
    rw [hM3]
    unfold py3
    (try unfold stOK)
    split <;> (try split) <;> (try split) <;> omega
set_option maxHeartbeats 4000000 in
set_option maxRecDepth 100000 in
theorem k_X6_heardIn {Ω : xO} {h : xM} {m : Nat} {L : lS} {n s : Int} (hL : ML h m L) (irn : inR n) (irs : inR s) : xCt Ω yX6_heardIn cX6_heardIn 3 (some .int) rm_X6_heardIn [rf m, vi n, vi s] h (fun q h' => FM h h' m ∧ ∃ v, q = some (vi v) ∧ (((((0 ≤ s ∧ s < 6)) ∧ (0 ≤ n) ∧ (True)) ∧ mI h' m 3 = 0 ∧ v = (if n < aW (lA L) then sil (lA L) n s else -1) ∧ ML h' m (L)) ∨ (py3 ((0 ≤ s ∧ s < 6)) (0 ≤ n) (True) (mI h' m 3) ∧ v = 0 ∧ ML h' m L))) xNo := by
  refine xCt_of (ini := false) (by decide +kernel) (Nat.le_of_ble_eq_true rfl) (fun q => absurd q (by decide)) ?_
  generalize hPR : (fun q h' => FM h h' m ∧ ∃ v, q = some (vi v) ∧ (((((0 ≤ s ∧ s < 6)) ∧ (0 ≤ n) ∧ (True)) ∧ mI h' m 3 = 0 ∧ v = (if n < aW (lA L) then sil (lA L) n s else -1) ∧ ML h' m (L)) ∨ (py3 ((0 ≤ s ∧ s < 6)) (0 ≤ n) (True) (mI h' m 3) ∧ v = 0 ∧ ML h' m L)) : Option xV → xM → Prop) = PR
  have K0 : X Ω RX6 cX6_heardIn 3 (some .int) false rm_X6_heardIn PR xNo 0 0 0 [some (rf m), some (vi n), some (vi s)] [] h := ?_
  exact K0
  have hz := hL.2.2.1
  have hO := hL.2.2.2.2.2.2.2.2
  have hz6 := hO.2.2.1
  have hA : aOK (lA L) := hO.2.1.1
  have hM := hL.2.1
  obtain ⟨mSt, mB, mW, mWl, mWo, mCo, mHe⟩ := id hM
  obtain ⟨okB, okN, okWl, okS, okW, okM, okC, okH⟩ := id hA
  have hTn := hL.2.2.2.2.2.2.1
  have hTr := hO.2.2.2.2.1
  have hKf := hL.2.2.2.2.1
  have hKb := hO.2.2.2.1
  obtain ⟨irn1, irn2⟩ := irn
  obtain ⟨irs1, irs2⟩ := irs
  refine X.aload_n (i := 0) rfl rfl dX6_heardIn_0 (pc' := 1) rfl ?_
  refine X.iload_n (i := 2) rfl rfl dX6_heardIn_1 (pc' := 2) rfl ?_
  refine X.callS (rm := rm_X6_isSeat) (As := [vi s]) (st := [rf m]) dX6_heardIn_2 ck_X6_52 rfl rfl ⟨Nat.le_of_ble_eq_true rfl, Nat.le_of_ble_eq_true rfl⟩ (Nat.le_of_ble_eq_true rfl) (Nat.le_of_ble_eq_true rfl) (Nat.le_of_ble_eq_true rfl) (pc' := 5) rfl (k_X6_isSeat ⟨by omega, by omega⟩) (fun q1 hq1 eq1 => ?_) (fun _ _ x1 => x1.elim)
  obtain ⟨rfl, r2, rfl, hr2⟩ := eq1
  refine X.iload_n (i := 1) rfl rfl dX6_heardIn_5 (pc' := 6) rfl ?_
  refine X.if_lt (tgt := 13) dX6_heardIn_6 ⟨by omega, by omega⟩ (by decide) (pc' := 9) rfl (fun c6 => ?_) (fun c6 => ?_)
  · refine X.iconst dX6_heardIn_13 (pc' := 14) rfl ?_
    refine X.iconst dX6_heardIn_14 (pc' := 15) rfl ?_
    refine X.callV (ci := 6) (a := m) (rm := rm_X6_goes) (As := [vi r2, vi 0, vi 1]) (st := []) dX6_heardIn_15 ck_X6_60 rfl (by decide) hL.1.1 rfl rfl ⟨Nat.le_of_ble_eq_true rfl, Nat.le_of_ble_eq_true rfl⟩ (Nat.le_of_ble_eq_true rfl) (Nat.le_of_ble_eq_true rfl) (Nat.le_of_ble_eq_true rfl) (pc' := 18) rfl (k_X6_goes hL.1 (by omega) (by omega) (by omega)) (fun q3 hq3 eq3 => ?_) (fun _ _ x1 => x1.elim)
    obtain ⟨hG, r4, rfl, hr4⟩ := eq3
    have hM3 : mI hq3 m 3 = (if (r2 : Int) = 0 then 1 else if (0 : Int) = 0 then 2 else if (1 : Int) = 0 then 3 else 0) := by rw [hG, mI_sI, if_pos ⟨rfl, rfl⟩]
    have hFq : FM h hq3 m := by rw [hG]; exact FM.rf.w ⟨by omega, by omega⟩
    have hL2 : ML hq3 m L := hL.th hFq (by rw [hG]; funext j; rw [mI_sI, if_neg (by omega)]) (by rw [hG]; funext j; rw [mI_sI, if_neg (by omega)]) (fun j z => by rw [hG, mI_sI, if_neg (by omega)])
    refine X.if_ne (tgt := 23) dX6_heardIn_18 ⟨by omega, by omega⟩ (by decide) (pc' := 21) rfl (fun c18 => ?_) (fun c18 => ?_)
    · refine X.aload_n (i := 0) rfl rfl dX6_heardIn_23 (pc' := 24) rfl ?_
      refine X.iload_n (i := 1) rfl rfl dX6_heardIn_24 (pc' := 25) rfl ?_
      refine X.iload_n (i := 2) rfl rfl dX6_heardIn_25 (pc' := 26) rfl ?_
      refine X.callV (ci := 6) (a := m) (rm := rm_X6_silentBeats) (As := [vi n, vi s]) (st := []) dX6_heardIn_26 ck_X6_173 rfl (by decide) hL2.1.1 rfl rfl ⟨Nat.le_of_ble_eq_true rfl, Nat.le_of_ble_eq_true rfl⟩ (Nat.le_of_ble_eq_true rfl) (Nat.le_of_ble_eq_true rfl) (Nat.le_of_ble_eq_true rfl) (pc' := 29) rfl (k_X6_silentBeats hL2.1 hL2.2.1 hA ⟨by omega, by omega⟩ ⟨by omega, by omega⟩) (fun q5 hq5 eq5 => ?_) (fun _ _ x1 => x1.elim)
      obtain ⟨rfl, r6, rfl, hr6⟩ := eq5
      refine X.iret dX6_heardIn_29 (Or.inl rfl) (Nat.le_of_ble_eq_true rfl) (Nat.le_of_ble_eq_true rfl) ?_
      subst hPR
      exact ⟨hFq, _, rfl, Or.inl ⟨⟨by omega, by omega, trivial⟩, by rw [hM3]; split <;> (try split) <;> (try split) <;> omega, by rw [hr6]; split <;> split <;> first | rfl | omega, hL2⟩⟩
    · refine X.iconst dX6_heardIn_21 (pc' := 22) rfl ?_
      refine X.iret dX6_heardIn_22 (Or.inl rfl) (Nat.le_of_ble_eq_true rfl) (Nat.le_of_ble_eq_true rfl) ?_
      subst hPR
      refine ⟨hFq, _, rfl, Or.inr ⟨?_, rfl, hL2⟩⟩
      rw [hM3]
      unfold py3
      (try unfold stOK)
      split <;> (try split) <;> (try split) <;> omega
  · refine X.iconst dX6_heardIn_9 (pc' := 10) rfl ?_
    refine X.goto (tgt := 14) dX6_heardIn_10 (by decide) ?_
    refine X.iconst dX6_heardIn_14 (pc' := 15) rfl ?_
    refine X.callV (ci := 6) (a := m) (rm := rm_X6_goes) (As := [vi r2, vi 1, vi 1]) (st := []) dX6_heardIn_15 ck_X6_60 rfl (by decide) hL.1.1 rfl rfl ⟨Nat.le_of_ble_eq_true rfl, Nat.le_of_ble_eq_true rfl⟩ (Nat.le_of_ble_eq_true rfl) (Nat.le_of_ble_eq_true rfl) (Nat.le_of_ble_eq_true rfl) (pc' := 18) rfl (k_X6_goes hL.1 (by omega) (by omega) (by omega)) (fun q7 hq7 eq7 => ?_) (fun _ _ x1 => x1.elim)
    obtain ⟨hG, r8, rfl, hr8⟩ := eq7
    have hM3 : mI hq7 m 3 = (if (r2 : Int) = 0 then 1 else if (1 : Int) = 0 then 2 else if (1 : Int) = 0 then 3 else 0) := by rw [hG, mI_sI, if_pos ⟨rfl, rfl⟩]
    have hFq : FM h hq7 m := by rw [hG]; exact FM.rf.w ⟨by omega, by omega⟩
    have hL2 : ML hq7 m L := hL.th hFq (by rw [hG]; funext j; rw [mI_sI, if_neg (by omega)]) (by rw [hG]; funext j; rw [mI_sI, if_neg (by omega)]) (fun j z => by rw [hG, mI_sI, if_neg (by omega)])
    refine X.if_ne (tgt := 23) dX6_heardIn_18 ⟨by omega, by omega⟩ (by decide) (pc' := 21) rfl (fun c18 => ?_) (fun c18 => ?_)
    · refine X.aload_n (i := 0) rfl rfl dX6_heardIn_23 (pc' := 24) rfl ?_
      refine X.iload_n (i := 1) rfl rfl dX6_heardIn_24 (pc' := 25) rfl ?_
      refine X.iload_n (i := 2) rfl rfl dX6_heardIn_25 (pc' := 26) rfl ?_
      refine X.callV (ci := 6) (a := m) (rm := rm_X6_silentBeats) (As := [vi n, vi s]) (st := []) dX6_heardIn_26 ck_X6_173 rfl (by decide) hL2.1.1 rfl rfl ⟨Nat.le_of_ble_eq_true rfl, Nat.le_of_ble_eq_true rfl⟩ (Nat.le_of_ble_eq_true rfl) (Nat.le_of_ble_eq_true rfl) (Nat.le_of_ble_eq_true rfl) (pc' := 29) rfl (k_X6_silentBeats hL2.1 hL2.2.1 hA ⟨by omega, by omega⟩ ⟨by omega, by omega⟩) (fun q9 hq9 eq9 => ?_) (fun _ _ x1 => x1.elim)
      obtain ⟨rfl, r10, rfl, hr10⟩ := eq9
      refine X.iret dX6_heardIn_29 (Or.inl rfl) (Nat.le_of_ble_eq_true rfl) (Nat.le_of_ble_eq_true rfl) ?_
      subst hPR
      exact ⟨hFq, _, rfl, Or.inl ⟨⟨by omega, by omega, trivial⟩, by rw [hM3]; split <;> (try split) <;> (try split) <;> omega, by rw [hr10]; split <;> split <;> first | rfl | omega, hL2⟩⟩
    · refine X.iconst dX6_heardIn_21 (pc' := 22) rfl ?_
      refine X.iret dX6_heardIn_22 (Or.inl rfl) (Nat.le_of_ble_eq_true rfl) (Nat.le_of_ble_eq_true rfl) ?_
      subst hPR
      refine ⟨hFq, _, rfl, Or.inr ⟨?_, rfl, hL2⟩⟩
      rw [hM3]
      unfold py3
      (try unfold stOK)
      split <;> (try split) <;> (try split) <;> omega
set_option maxHeartbeats 4000000 in
set_option maxRecDepth 100000 in
theorem k_X6_bestSeat {Ω : xO} {h : xM} {m : Nat} {L : lS} (hL : ML h m L) : xCt Ω yX6_bestSeat cX6_bestSeat 1 (some .int) rm_X6_bestSeat [rf m] h (fun q h' => FM h h' m ∧ q = some (vi (bst (lA L))) ∧ mI h' m 3 = 0 ∧ ML h' m (L)) xNo := by
  refine xCt_of (ini := false) (by decide +kernel) (Nat.le_of_ble_eq_true rfl) (fun q => absurd q (by decide)) ?_
  generalize hPR : (fun q h' => FM h h' m ∧ q = some (vi (bst (lA L))) ∧ mI h' m 3 = 0 ∧ ML h' m (L) : Option xV → xM → Prop) = PR
  have K0 : X Ω RX6 cX6_bestSeat 1 (some .int) false rm_X6_bestSeat PR xNo 0 0 0 [some (rf m)] [] h := ?_
  exact K0
  have hz := hL.2.2.1
  have hO := hL.2.2.2.2.2.2.2.2
  have hz6 := hO.2.2.1
  have hA : aOK (lA L) := hO.2.1.1
  have hM := hL.2.1
  obtain ⟨mSt, mB, mW, mWl, mWo, mCo, mHe⟩ := id hM
  obtain ⟨okB, okN, okWl, okS, okW, okM, okC, okH⟩ := id hA
  have hTn := hL.2.2.2.2.2.2.1
  have hTr := hO.2.2.2.2.1
  have hKf := hL.2.2.2.2.1
  have hKb := hO.2.2.2.1
  refine X.aload_n (i := 0) rfl rfl dX6_bestSeat_0 (pc' := 1) rfl ?_
  refine X.iconst dX6_bestSeat_1 (pc' := 2) rfl ?_
  refine X.putI fk_X6_21 xcl_6 ⟨_, rfl, Or.inl rfl⟩ dX6_bestSeat_2 (Or.inl rfl) ⟨by omega, by omega⟩ hL.1.1 (pc' := 5) rfl ?_
  refine X.genH (fun h1 hh1 => ?_)
  have wh1 : ∀ (w0 : Nat) (w1 : Int), mI h1 w0 w1 = if w0 = m ∧ w1 = 3 then 0 else mI h w0 w1 := fun _ _ => by rw [hh1]; rfl
  have S2 : MoS h1 m := by rw [hh1]; exact hL.1
  have hF2 : FM h h1 m := by rw [hh1]; exact FM.rf.w ⟨by omega, by omega⟩
  have hL2 : ML h1 m L := hL.th hF2 (by rw [hh1]; funext j; rw [mI_sI, if_neg (by omega)]) (by rw [hh1]; funext j; rw [mI_sI, if_neg (by omega)]) (fun j z => by rw [hh1, mI_sI, if_neg (by omega)])
  have hT0 : mI h1 m 3 = 0 := by rw [wh1, if_pos ⟨rfl, rfl⟩]
  refine X.aload_n (i := 0) rfl rfl dX6_bestSeat_5 (pc' := 6) rfl ?_
  refine X.callV (ci := 6) (a := m) (rm := rm_X6_best) (As := []) (st := []) dX6_bestSeat_6 ck_X6_176 rfl (by decide) hL2.1.1 rfl rfl ⟨Nat.le_of_ble_eq_true rfl, Nat.le_of_ble_eq_true rfl⟩ (Nat.le_of_ble_eq_true rfl) (Nat.le_of_ble_eq_true rfl) (Nat.le_of_ble_eq_true rfl) (pc' := 9) rfl (k_X6_best hL2.1 hL2.2.1 hA) (fun q3 hq3 eq3 => ?_) (fun _ _ x1 => x1.elim)
  obtain ⟨rfl, r4, rfl, hr4⟩ := eq3
  refine X.iret dX6_bestSeat_9 (Or.inl rfl) (Nat.le_of_ble_eq_true rfl) (Nat.le_of_ble_eq_true rfl) ?_
  subst hPR
  exact ⟨hF2, by rw [hr4], hT0, hL2⟩
