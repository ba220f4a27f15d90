set_option maxHeartbeats 4000000 in
set_option maxRecDepth 100000 in
theorem k_X6_wall {Ω : xO} {h : xM} {m : Nat} {L : lS} {s k : Int} (hL : ML h m L) (irs : inR s) (irk : inR k) : xCt Ω yX6_wall cX6_wall 4 (some .int) rm_X6_wall [rf m, vi s, vi k] h (fun q h' => FM h h' m ∧ ∃ v, q = some (vi v) ∧ ((((0 ≤ s ∧ s < 6) ∧ (0 ≤ k ∧ k ≤ 3) ∧ (True)) ∧ mI h' m 3 = 0 ∧ v = aWl (lA L) s ∧ ML h' m (sA (sSave L) (aSWl (lA L) s k))) ∨ (py3 (0 ≤ s ∧ s < 6) (0 ≤ k ∧ k ≤ 3) (True) (mI h' m 3) ∧ v = 0 ∧ ML h' m L))) xNo := by
  refine xCt_of (ini := false) (by decide +kernel) (Nat.le_of_ble_eq_true rfl) (fun q => absurd q (by decide)) ?_
  generalize hPR : (fun q h' => FM h h' m ∧ ∃ v, q = some (vi v) ∧ ((((0 ≤ s ∧ s < 6) ∧ (0 ≤ k ∧ k ≤ 3) ∧ (True)) ∧ mI h' m 3 = 0 ∧ v = aWl (lA L) s ∧ ML h' m (sA (sSave L) (aSWl (lA L) s k))) ∨ (py3 (0 ≤ s ∧ s < 6) (0 ≤ k ∧ k ≤ 3) (True) (mI h' m 3) ∧ v = 0 ∧ ML h' m L)) : Option xV → xM → Prop) = PR
  have K0 : X Ω RX6 cX6_wall 4 (some .int) false rm_X6_wall PR xNo 0 0 0 [some (rf m), some (vi s), some (vi k), none] [] h := ?_
  exact K0
  have hz := hL.2.2.1
  have hO := hL.2.2.2.2.2.2.2.2
  have hz6 := hO.2.2.1
  have hA : aOK (lA L) := hO.2.1.1
  have hM := hL.2.1
  obtain ⟨mSt, mB, mW, mWl, mWo, mCo, mHe⟩ := id hM
  obtain ⟨okB, okN, okWl, okS, okW, okM, okC, okH⟩ := id hA
  have hTn := hL.2.2.2.2.2.2.1
  have hTr := hO.2.2.2.2.1
  have hKf := hL.2.2.2.2.1
  have hKb := hO.2.2.2.1
  obtain ⟨irs1, irs2⟩ := irs
  obtain ⟨irk1, irk2⟩ := irk
  refine X.aload_n (i := 0) rfl rfl dX6_wall_0 (pc' := 1) rfl ?_
  refine X.iload_n (i := 1) rfl rfl dX6_wall_1 (pc' := 2) rfl ?_
  refine X.callS (rm := rm_X6_isSeat) (As := [vi s]) (st := [rf m]) dX6_wall_2 ck_X6_52 rfl rfl ⟨Nat.le_of_ble_eq_true rfl, Nat.le_of_ble_eq_true rfl⟩ (Nat.le_of_ble_eq_true rfl) (Nat.le_of_ble_eq_true rfl) (Nat.le_of_ble_eq_true rfl) (pc' := 5) rfl (k_X6_isSeat ⟨by omega, by omega⟩) (fun q1 hq1 eq1 => ?_) (fun _ _ x1 => x1.elim)
  obtain ⟨rfl, r2, rfl, hr2⟩ := eq1
  refine X.iload_n (i := 2) rfl rfl dX6_wall_5 (pc' := 6) rfl ?_
  refine X.iconst dX6_wall_6 (pc' := 7) rfl ?_
  refine X.iconst dX6_wall_7 (pc' := 8) rfl ?_
  refine X.callS (rm := rm_X6_in) (As := [vi k, vi 0, vi 3]) (st := [vi r2, rf m]) dX6_wall_8 ck_X6_32 rfl rfl ⟨Nat.le_of_ble_eq_true rfl, Nat.le_of_ble_eq_true rfl⟩ (Nat.le_of_ble_eq_true rfl) (Nat.le_of_ble_eq_true rfl) (Nat.le_of_ble_eq_true rfl) (pc' := 11) rfl (k_X6_in ⟨by omega, by omega⟩ ⟨by omega, by omega⟩ ⟨by omega, by omega⟩) (fun q3 hq3 eq3 => ?_) (fun _ _ x1 => x1.elim)
  obtain ⟨rfl, r4, rfl, hr4⟩ := eq3
  refine X.iconst dX6_wall_11 (pc' := 12) rfl ?_
  refine X.callV (ci := 6) (a := m) (rm := rm_X6_goes) (As := [vi r2, vi r4, vi 1]) (st := []) dX6_wall_12 ck_X6_60 rfl (by decide) hL.1.1 rfl rfl ⟨Nat.le_of_ble_eq_true rfl, Nat.le_of_ble_eq_true rfl⟩ (Nat.le_of_ble_eq_true rfl) (Nat.le_of_ble_eq_true rfl) (Nat.le_of_ble_eq_true rfl) (pc' := 15) rfl (k_X6_goes hL.1 (by omega) (by omega) (by omega)) (fun q5 hq5 eq5 => ?_) (fun _ _ x1 => x1.elim)
  obtain ⟨hG, r6, rfl, hr6⟩ := eq5
  have hM3 : mI hq5 m 3 = (if (r2 : Int) = 0 then 1 else if (r4 : Int) = 0 then 2 else if (1 : Int) = 0 then 3 else 0) := by rw [hG, mI_sI, if_pos ⟨rfl, rfl⟩]
  have hFq : FM h hq5 m := by rw [hG]; exact FM.rf.w ⟨by omega, by omega⟩
  have hL2 : ML hq5 m L := hL.th hFq (by rw [hG]; funext j; rw [mI_sI, if_neg (by omega)]) (by rw [hG]; funext j; rw [mI_sI, if_neg (by omega)]) (fun j z => by rw [hG, mI_sI, if_neg (by omega)])
  refine X.if_ne (tgt := 20) dX6_wall_15 ⟨by omega, by omega⟩ (by decide) (pc' := 18) rfl (fun c15 => ?_) (fun c15 => ?_)
  · refine X.aload_n (i := 0) rfl rfl dX6_wall_20 (pc' := 21) rfl ?_
    refine X.callV (ci := 6) (a := m) (rm := rm_X6_saves) (As := []) (st := []) dX6_wall_21 ck_X6_64 rfl (by decide) hL2.1.1 rfl rfl ⟨Nat.le_of_ble_eq_true rfl, Nat.le_of_ble_eq_true rfl⟩ (Nat.le_of_ble_eq_true rfl) (Nat.le_of_ble_eq_true rfl) (Nat.le_of_ble_eq_true rfl) (pc' := 24) rfl (k_X6_saves hL2) (fun q7 hq7 eq7 => ?_) (fun _ _ x1 => x1.elim)
    obtain ⟨rfl, hL3, hG3⟩ := eq7
    have hM30 : mI hq7 m 3 = 0 := by rw [hG3.2.2.1 3 (by omega), hM3]; split <;> (try split) <;> (try split) <;> omega
    have mA3 : RM hq7 (m + 1) 0 (lA L) := hL3.2.1
    obtain ⟨nSt, nB, nW, nWl, nWo, nCo, nHe⟩ := id mA3
    refine X.aload_n (i := 0) rfl rfl dX6_wall_24 (pc' := 25) rfl ?_
    refine X.getR fk_X6_8 xcl_6 dX6_wall_25 hL3.1.1 hL3.1.2.1 (pc' := 28) rfl ?_
    refine X.iconst dX6_wall_28 (pc' := 29) rfl ?_
    refine X.iload_n (i := 1) rfl rfl dX6_wall_29 (pc' := 30) rfl ?_
    refine X.iadd dX6_wall_30 (pc' := 31) rfl ?_
    refine X.iald (x := aWl (lA L) s) dX6_wall_31 hL3.1.2.2.1 (by omega) (by omega) ⟨by omega, by omega⟩ (mI_at (nWl s (by omega) (by omega)) (by omega)) (pc' := 32) rfl (fun r8 => ?_)
    obtain ⟨r8a, r8b⟩ := r8
    refine X.gen (fun had hhad => ?_)
    refine X.istore_n (i := 3) (ls' := [some (rf m), some (vi s), some (vi k), some (vi had)]) (hi := rfl) (hd := dX6_wall_32) (by decide) rfl rfl (pc' := 33) rfl ?_
    refine X.aload_n (i := 0) rfl rfl dX6_wall_33 (pc' := 34) rfl ?_
    refine X.getR fk_X6_8 xcl_6 dX6_wall_34 hL3.1.1 hL3.1.2.1 (pc' := 37) rfl ?_
    refine X.iconst dX6_wall_37 (pc' := 38) rfl ?_
    refine X.iload_n (i := 1) rfl rfl dX6_wall_38 (pc' := 39) rfl ?_
    refine X.iadd dX6_wall_39 (pc' := 40) rfl ?_
    refine X.iload_n (i := 2) rfl rfl dX6_wall_40 (pc' := 41) rfl ?_
    refine X.iast dX6_wall_41 hL3.1.2.2.1 (by omega) (by omega) ⟨by omega, by omega⟩ ⟨by omega, by omega⟩ (pc' := 42) rfl ?_
    refine X.genH (fun h9 hh9 => ?_)
    have wh9 : ∀ (w0 : Nat) (w1 : Int), mI h9 w0 w1 = if w0 = (m + 1) ∧ w1 = 5 + s then k else mI hq7 w0 w1 := fun _ _ => by rw [hh9]; rfl
    have S10 : MoS h9 m := by rw [hh9]; exact hL3.1
    refine X.iload_n (i := 3) rfl rfl dX6_wall_42 (pc' := 43) rfl ?_
    refine X.iret dX6_wall_43 (Or.inl rfl) (Nat.le_of_ble_eq_true rfl) (Nat.le_of_ble_eq_true rfl) ?_
    subst hPR
    have hF5 : FS hq7 h9 m := by rw [hh9]; exact FS.w FS.rf (by omega)
    have hL5 := hL3.now hF5 (RM_wl (s := s) (k := k) mA3 (by omega) (fun j => (wh9 (m + 1) j).trans (by
      by_cases e : j = 5 + s
      · rw [if_pos ⟨rfl, by omega⟩, if_pos e]
      · rw [if_neg (by omega), if_neg e]))) (aSWl_ok hA (by omega)) hO.1.1
    exact ⟨(hFq.tr hG3.1).tr hF5.1, _, rfl, Or.inl ⟨⟨by omega, by omega, trivial⟩, by rw [hF5.2.1 m (by omega)]; exact hM30, hhad, hL5⟩⟩
  · refine X.iconst dX6_wall_18 (pc' := 19) rfl ?_
    refine X.iret dX6_wall_19 (Or.inl rfl) (Nat.le_of_ble_eq_true rfl) (Nat.le_of_ble_eq_true rfl) ?_
    subst hPR
    refine ⟨hFq, _, rfl, Or.inr ⟨?_, rfl, hL2⟩⟩
    rw [hM3]
    unfold py3
    (try unfold stOK)
    split <;> (try split) <;> (try split) <;> omega
set_option maxHeartbeats 4000000 in
set_option maxRecDepth 100000 in
theorem k_X6_set {Ω : xO} {h : xM} {m : Nat} {L : lS} {s k : Int} (hL : ML h m L) (irs : inR s) (irk : inR k) : xCt Ω yX6_set cX6_set 5 (some .int) rm_X6_set [rf m, vi s, vi k] h (fun q h' => FM h h' m ∧ ∃ v, q = some (vi v) ∧ ((((0 ≤ s ∧ s ≤ 2) ∧ (stOK s k) ∧ (True)) ∧ mI h' m 3 = 0 ∧ v = aSt (lA L) s ∧ ML h' m (sA (sSave L) (aSSt (lA L) s k))) ∨ (py3 (0 ≤ s ∧ s ≤ 2) (stOK s k) (True) (mI h' m 3) ∧ v = 0 ∧ ML h' m L))) xNo := by
  refine xCt_of (ini := false) (by decide +kernel) (Nat.le_of_ble_eq_true rfl) (fun q => absurd q (by decide)) ?_
  generalize hPR : (fun q h' => FM h h' m ∧ ∃ v, q = some (vi v) ∧ ((((0 ≤ s ∧ s ≤ 2) ∧ (stOK s k) ∧ (True)) ∧ mI h' m 3 = 0 ∧ v = aSt (lA L) s ∧ ML h' m (sA (sSave L) (aSSt (lA L) s k))) ∨ (py3 (0 ≤ s ∧ s ≤ 2) (stOK s k) (True) (mI h' m 3) ∧ v = 0 ∧ ML h' m L)) : Option xV → xM → Prop) = PR
  have K0 : X Ω RX6 cX6_set 5 (some .int) false rm_X6_set PR xNo 0 0 0 [some (rf m), some (vi s), some (vi k), none, none] [] h := ?_
  exact K0
  have hz := hL.2.2.1
  have hO := hL.2.2.2.2.2.2.2.2
  have hz6 := hO.2.2.1
  have hA : aOK (lA L) := hO.2.1.1
  have hM := hL.2.1
  obtain ⟨mSt, mB, mW, mWl, mWo, mCo, mHe⟩ := id hM
  obtain ⟨okB, okN, okWl, okS, okW, okM, okC, okH⟩ := id hA
  have hTn := hL.2.2.2.2.2.2.1
  have hTr := hO.2.2.2.2.1
  have hKf := hL.2.2.2.2.1
  have hKb := hO.2.2.2.1
  obtain ⟨irs1, irs2⟩ := irs
  obtain ⟨irk1, irk2⟩ := irk
  refine X.iload_n (i := 1) rfl rfl dX6_set_0 (pc' := 1) rfl ?_
  refine X.iconst dX6_set_1 (pc' := 2) rfl ?_
  refine X.iconst dX6_set_2 (pc' := 3) rfl ?_
  refine X.callS (rm := rm_X6_in) (As := [vi s, vi 0, vi 2]) (st := []) dX6_set_3 ck_X6_32 rfl rfl ⟨Nat.le_of_ble_eq_true rfl, Nat.le_of_ble_eq_true rfl⟩ (Nat.le_of_ble_eq_true rfl) (Nat.le_of_ble_eq_true rfl) (Nat.le_of_ble_eq_true rfl) (pc' := 6) rfl (k_X6_in ⟨by omega, by omega⟩ ⟨by omega, by omega⟩ ⟨by omega, by omega⟩) (fun q1 hq1 eq1 => ?_) (fun _ _ x1 => x1.elim)
  obtain ⟨rfl, r2, rfl, hr2⟩ := eq1
  refine X.istore_n (i := 3) (ls' := [some (rf m), some (vi s), some (vi k), some (vi r2), none]) (hi := rfl) (hd := dX6_set_6) (by decide) rfl rfl (pc' := 7) rfl ?_
  refine X.aload_n (i := 0) rfl rfl dX6_set_7 (pc' := 8) rfl ?_
  refine X.iload_n (i := 3) rfl rfl dX6_set_8 (pc' := 9) rfl ?_
  refine X.iload_n (i := 3) rfl rfl dX6_set_9 (pc' := 10) rfl ?_
  refine X.if_eq (tgt := 49) dX6_set_10 ⟨by omega, by omega⟩ (by decide) (pc' := 13) rfl (fun c10 => ?_) (fun c10 => ?_)
  · refine X.iconst dX6_set_49 (pc' := 50) rfl ?_
    refine X.goto (tgt := 54) dX6_set_50 (by decide) ?_
    refine X.iconst dX6_set_54 (pc' := 55) rfl ?_
    refine X.callV (ci := 6) (a := m) (rm := rm_X6_goes) (As := [vi r2, vi 1, vi 1]) (st := []) dX6_set_55 ck_X6_60 rfl (by decide) hL.1.1 rfl rfl ⟨Nat.le_of_ble_eq_true rfl, Nat.le_of_ble_eq_true rfl⟩ (Nat.le_of_ble_eq_true rfl) (Nat.le_of_ble_eq_true rfl) (Nat.le_of_ble_eq_true rfl) (pc' := 58) rfl (k_X6_goes hL.1 (by omega) (by omega) (by omega)) (fun q3 hq3 eq3 => ?_) (fun _ _ x1 => x1.elim)
    obtain ⟨hG, r4, rfl, hr4⟩ := eq3
    have hM3 : mI hq3 m 3 = (if (r2 : Int) = 0 then 1 else if (1 : Int) = 0 then 2 else if (1 : Int) = 0 then 3 else 0) := by rw [hG, mI_sI, if_pos ⟨rfl, rfl⟩]
    have hFq : FM h hq3 m := by rw [hG]; exact FM.rf.w ⟨by omega, by omega⟩
    have hL2 : ML hq3 m L := hL.th hFq (by rw [hG]; funext j; rw [mI_sI, if_neg (by omega)]) (by rw [hG]; funext j; rw [mI_sI, if_neg (by omega)]) (fun j z => by rw [hG, mI_sI, if_neg (by omega)])
    refine X.if_ne (tgt := 63) dX6_set_58 ⟨by omega, by omega⟩ (by decide) (pc' := 61) rfl (fun c58 => ?_) (fun c58 => ?_)
    · refine X.aload_n (i := 0) rfl rfl dX6_set_63 (pc' := 64) rfl ?_
      refine X.callV (ci := 6) (a := m) (rm := rm_X6_saves) (As := []) (st := []) dX6_set_64 ck_X6_64 rfl (by decide) hL2.1.1 rfl rfl ⟨Nat.le_of_ble_eq_true rfl, Nat.le_of_ble_eq_true rfl⟩ (Nat.le_of_ble_eq_true rfl) (Nat.le_of_ble_eq_true rfl) (Nat.le_of_ble_eq_true rfl) (pc' := 67) rfl (k_X6_saves hL2) (fun q5 hq5 eq5 => ?_) (fun _ _ x1 => x1.elim)
      obtain ⟨rfl, hL3, hG3⟩ := eq5
      have hM30 : mI hq5 m 3 = 0 := by rw [hG3.2.2.1 3 (by omega), hM3]; split <;> (try split) <;> (try split) <;> omega
      have mA3 : RM hq5 (m + 1) 0 (lA L) := hL3.2.1
      obtain ⟨nSt, nB, nW, nWl, nWo, nCo, nHe⟩ := id mA3
      refine X.aload_n (i := 0) rfl rfl dX6_set_67 (pc' := 68) rfl ?_
      refine X.getR fk_X6_8 xcl_6 dX6_set_68 hL3.1.1 hL3.1.2.1 (pc' := 71) rfl ?_
      refine X.iload_n (i := 1) rfl rfl dX6_set_71 (pc' := 72) rfl ?_
      refine X.iald (x := aSt (lA L) s) dX6_set_72 hL3.1.2.2.1 (by omega) (by omega) ⟨by omega, by omega⟩ (mI_at (nSt s (by omega) (by omega)) (by omega)) (pc' := 73) rfl (fun r6 => ?_)
      obtain ⟨r6a, r6b⟩ := r6
      refine X.gen (fun had hhad => ?_)
      refine X.istore (i := 4) (ls' := [some (rf m), some (vi s), some (vi k), some (vi r2), some (vi had)]) (hd := dX6_set_73) (by decide) rfl rfl (pc' := 75) rfl ?_
      refine X.aload_n (i := 0) rfl rfl dX6_set_75 (pc' := 76) rfl ?_
      refine X.getR fk_X6_8 xcl_6 dX6_set_76 hL3.1.1 hL3.1.2.1 (pc' := 79) rfl ?_
      refine X.iload_n (i := 1) rfl rfl dX6_set_79 (pc' := 80) rfl ?_
      refine X.iload_n (i := 2) rfl rfl dX6_set_80 (pc' := 81) rfl ?_
      refine X.iast dX6_set_81 hL3.1.2.2.1 (by omega) (by omega) ⟨by omega, by omega⟩ ⟨by omega, by omega⟩ (pc' := 82) rfl ?_
      refine X.genH (fun h7 hh7 => ?_)
      have wh7 : ∀ (w0 : Nat) (w1 : Int), mI h7 w0 w1 = if w0 = (m + 1) ∧ w1 = s then k else mI hq5 w0 w1 := fun _ _ => by rw [hh7]; rfl
      have S8 : MoS h7 m := by rw [hh7]; exact hL3.1
      refine X.iload (i := 4) rfl dX6_set_82 (pc' := 84) rfl ?_
      refine X.iret dX6_set_84 (Or.inl rfl) (Nat.le_of_ble_eq_true rfl) (Nat.le_of_ble_eq_true rfl) ?_
      subst hPR
      have hst : stOK s k := by unfold stOK; omega
      have hF5 : FS hq5 h7 m := by rw [hh7]; exact FS.w FS.rf (by omega)
      have hL5 := hL3.now hF5 (RM_st (s := s) (k := k) mA3 (by omega) (fun j => (wh7 (m + 1) j).trans (by
        by_cases e : j = s
        · rw [if_pos ⟨rfl, by omega⟩, if_pos e]
        · rw [if_neg (by omega), if_neg e]))) (aSSt_ok hA hst) hO.1.1
      exact ⟨(hFq.tr hG3.1).tr hF5.1, _, rfl, Or.inl ⟨⟨by omega, hst, trivial⟩, by rw [hF5.2.1 m (by omega)]; exact hM30, hhad, hL5⟩⟩
    · refine X.iconst dX6_set_61 (pc' := 62) rfl ?_
      refine X.iret dX6_set_62 (Or.inl rfl) (Nat.le_of_ble_eq_true rfl) (Nat.le_of_ble_eq_true rfl) ?_
      subst hPR
      refine ⟨hFq, _, rfl, Or.inr ⟨?_, rfl, hL2⟩⟩
      rw [hM3]
      unfold py3
      (try unfold stOK)
      split <;> (try split) <;> (try split) <;> omega
  · refine X.iload_n (i := 2) rfl rfl dX6_set_13 (pc' := 14) rfl ?_
    refine X.iload_n (i := 1) rfl rfl dX6_set_14 (pc' := 15) rfl ?_
    refine X.iconst dX6_set_15 (pc' := 16) rfl ?_
    refine X.icmp_ne (tgt := 23) dX6_set_16 ⟨by omega, by omega⟩ ⟨by omega, by omega⟩ (by decide) (pc' := 19) rfl (fun c16 => ?_) (fun c16 => ?_)
    · refine X.iconst dX6_set_23 (pc' := 24) rfl ?_
      refine X.iload_n (i := 1) rfl rfl dX6_set_24 (pc' := 25) rfl ?_
      refine X.if_ne (tgt := 32) dX6_set_25 ⟨by omega, by omega⟩ (by decide) (pc' := 28) rfl (fun c25 => ?_) (fun c25 => ?_)
      · refine X.iload_n (i := 1) rfl rfl dX6_set_32 (pc' := 33) rfl ?_
        refine X.iconst dX6_set_33 (pc' := 34) rfl ?_
        refine X.icmp_ne (tgt := 41) dX6_set_34 ⟨by omega, by omega⟩ ⟨by omega, by omega⟩ (by decide) (pc' := 37) rfl (fun c34 => ?_) (fun c34 => ?_)
        · refine X.bipush (by decide +kernel) dX6_set_41 (pc' := 43) rfl ?_
          refine X.callS (rm := rm_X6_in) (As := [vi k, vi 0, vi 50]) (st := [vi r2, rf m]) dX6_set_43 ck_X6_32 rfl rfl ⟨Nat.le_of_ble_eq_true rfl, Nat.le_of_ble_eq_true rfl⟩ (Nat.le_of_ble_eq_true rfl) (Nat.le_of_ble_eq_true rfl) (Nat.le_of_ble_eq_true rfl) (pc' := 46) rfl (k_X6_in ⟨by omega, by omega⟩ ⟨by omega, by omega⟩ ⟨by omega, by omega⟩) (fun q9 hq9 eq9 => ?_) (fun _ _ x1 => x1.elim)
          obtain ⟨rfl, r10, rfl, hr10⟩ := eq9
          refine X.if_eq (tgt := 53) dX6_set_46 ⟨by omega, by omega⟩ (by decide) (pc' := 49) rfl (fun c46 => ?_) (fun c46 => ?_)
          · refine X.iconst dX6_set_53 (pc' := 54) rfl ?_
            refine X.iconst dX6_set_54 (pc' := 55) rfl ?_
            refine X.callV (ci := 6) (a := m) (rm := rm_X6_goes) (As := [vi r2, vi 0, vi 1]) (st := []) dX6_set_55 ck_X6_60 rfl (by decide) hL.1.1 rfl rfl ⟨Nat.le_of_ble_eq_true rfl, Nat.le_of_ble_eq_true rfl⟩ (Nat.le_of_ble_eq_true rfl) (Nat.le_of_ble_eq_true rfl) (Nat.le_of_ble_eq_true rfl) (pc' := 58) rfl (k_X6_goes hL.1 (by omega) (by omega) (by omega)) (fun q11 hq11 eq11 => ?_) (fun _ _ x1 => x1.elim)
            obtain ⟨hG, r12, rfl, hr12⟩ := eq11
            have hM3 : mI hq11 m 3 = (if (r2 : Int) = 0 then 1 else if (0 : Int) = 0 then 2 else if (1 : Int) = 0 then 3 else 0) := by rw [hG, mI_sI, if_pos ⟨rfl, rfl⟩]
            have hFq : FM h hq11 m := by rw [hG]; exact FM.rf.w ⟨by omega, by omega⟩
            have hL2 : ML hq11 m L := hL.th hFq (by rw [hG]; funext j; rw [mI_sI, if_neg (by omega)]) (by rw [hG]; funext j; rw [mI_sI, if_neg (by omega)]) (fun j z => by rw [hG, mI_sI, if_neg (by omega)])
            refine X.if_ne (tgt := 63) dX6_set_58 ⟨by omega, by omega⟩ (by decide) (pc' := 61) rfl (fun c58 => ?_) (fun c58 => ?_)
            · refine X.aload_n (i := 0) rfl rfl dX6_set_63 (pc' := 64) rfl ?_
              refine X.callV (ci := 6) (a := m) (rm := rm_X6_saves) (As := []) (st := []) dX6_set_64 ck_X6_64 rfl (by decide) hL2.1.1 rfl rfl ⟨Nat.le_of_ble_eq_true rfl, Nat.le_of_ble_eq_true rfl⟩ (Nat.le_of_ble_eq_true rfl) (Nat.le_of_ble_eq_true rfl) (Nat.le_of_ble_eq_true rfl) (pc' := 67) rfl (k_X6_saves hL2) (fun q13 hq13 eq13 => ?_) (fun _ _ x1 => x1.elim)
              obtain ⟨rfl, hL3, hG3⟩ := eq13
              have hM30 : mI hq13 m 3 = 0 := by rw [hG3.2.2.1 3 (by omega), hM3]; split <;> (try split) <;> (try split) <;> omega
              have mA3 : RM hq13 (m + 1) 0 (lA L) := hL3.2.1
              obtain ⟨nSt, nB, nW, nWl, nWo, nCo, nHe⟩ := id mA3
              refine X.aload_n (i := 0) rfl rfl dX6_set_67 (pc' := 68) rfl ?_
              refine X.getR fk_X6_8 xcl_6 dX6_set_68 hL3.1.1 hL3.1.2.1 (pc' := 71) rfl ?_
              refine X.iload_n (i := 1) rfl rfl dX6_set_71 (pc' := 72) rfl ?_
              refine X.iald (x := aSt (lA L) s) dX6_set_72 hL3.1.2.2.1 (by omega) (by omega) ⟨by omega, by omega⟩ (mI_at (nSt s (by omega) (by omega)) (by omega)) (pc' := 73) rfl (fun r14 => ?_)
              obtain ⟨r14a, r14b⟩ := r14
              refine X.gen (fun had hhad => ?_)
              refine X.istore (i := 4) (ls' := [some (rf m), some (vi s), some (vi k), some (vi r2), some (vi had)]) (hd := dX6_set_73) (by decide) rfl rfl (pc' := 75) rfl ?_
              refine X.aload_n (i := 0) rfl rfl dX6_set_75 (pc' := 76) rfl ?_
              refine X.getR fk_X6_8 xcl_6 dX6_set_76 hL3.1.1 hL3.1.2.1 (pc' := 79) rfl ?_
              refine X.iload_n (i := 1) rfl rfl dX6_set_79 (pc' := 80) rfl ?_
              refine X.iload_n (i := 2) rfl rfl dX6_set_80 (pc' := 81) rfl ?_
              refine X.iast dX6_set_81 hL3.1.2.2.1 (by omega) (by omega) ⟨by omega, by omega⟩ ⟨by omega, by omega⟩ (pc' := 82) rfl ?_
              refine X.genH (fun h15 hh15 => ?_)
              have wh15 : ∀ (w0 : Nat) (w1 : Int), mI h15 w0 w1 = if w0 = (m + 1) ∧ w1 = s then k else mI hq13 w0 w1 := fun _ _ => by rw [hh15]; rfl
              have S16 : MoS h15 m := by rw [hh15]; exact hL3.1
              refine X.iload (i := 4) rfl dX6_set_82 (pc' := 84) rfl ?_
              refine X.iret dX6_set_84 (Or.inl rfl) (Nat.le_of_ble_eq_true rfl) (Nat.le_of_ble_eq_true rfl) ?_
              subst hPR
              have hst : stOK s k := by unfold stOK; omega
              have hF5 : FS hq13 h15 m := by rw [hh15]; exact FS.w FS.rf (by omega)
              have hL5 := hL3.now hF5 (RM_st (s := s) (k := k) mA3 (by omega) (fun j => (wh15 (m + 1) j).trans (by
                by_cases e : j = s
                · rw [if_pos ⟨rfl, by omega⟩, if_pos e]
                · rw [if_neg (by omega), if_neg e]))) (aSSt_ok hA hst) hO.1.1
              exact ⟨(hFq.tr hG3.1).tr hF5.1, _, rfl, Or.inl ⟨⟨by omega, hst, trivial⟩, by rw [hF5.2.1 m (by omega)]; exact hM30, hhad, hL5⟩⟩
            · refine X.iconst dX6_set_61 (pc' := 62) rfl ?_
              refine X.iret dX6_set_62 (Or.inl rfl) (Nat.le_of_ble_eq_true rfl) (Nat.le_of_ble_eq_true rfl) ?_
              subst hPR
              refine ⟨hFq, _, rfl, Or.inr ⟨?_, rfl, hL2⟩⟩
              rw [hM3]
              unfold py3
              (try unfold stOK)
              split <;> (try split) <;> (try split) <;> omega
          · refine X.iconst dX6_set_49 (pc' := 50) rfl ?_
            refine X.goto (tgt := 54) dX6_set_50 (by decide) ?_
            refine X.iconst dX6_set_54 (pc' := 55) rfl ?_
            refine X.callV (ci := 6) (a := m) (rm := rm_X6_goes) (As := [vi r2, vi 1, vi 1]) (st := []) dX6_set_55 ck_X6_60 rfl (by decide) hL.1.1 rfl rfl ⟨Nat.le_of_ble_eq_true rfl, Nat.le_of_ble_eq_true rfl⟩ (Nat.le_of_ble_eq_true rfl) (Nat.le_of_ble_eq_true rfl) (Nat.le_of_ble_eq_true rfl) (pc' := 58) rfl (k_X6_goes hL.1 (by omega) (by omega) (by omega)) (fun q17 hq17 eq17 => ?_) (fun _ _ x1 => x1.elim)
            obtain ⟨hG, r18, rfl, hr18⟩ := eq17
            have hM3 : mI hq17 m 3 = (if (r2 : Int) = 0 then 1 else if (1 : Int) = 0 then 2 else if (1 : Int) = 0 then 3 else 0) := by rw [hG, mI_sI, if_pos ⟨rfl, rfl⟩]
            have hFq : FM h hq17 m := by rw [hG]; exact FM.rf.w ⟨by omega, by omega⟩
            have hL2 : ML hq17 m L := hL.th hFq (by rw [hG]; funext j; rw [mI_sI, if_neg (by omega)]) (by rw [hG]; funext j; rw [mI_sI, if_neg (by omega)]) (fun j z => by rw [hG, mI_sI, if_neg (by omega)])
            refine X.if_ne (tgt := 63) dX6_set_58 ⟨by omega, by omega⟩ (by decide) (pc' := 61) rfl (fun c58 => ?_) (fun c58 => ?_)
            · refine X.aload_n (i := 0) rfl rfl dX6_set_63 (pc' := 64) rfl ?_
              refine X.callV (ci := 6) (a := m) (rm := rm_X6_saves) (As := []) (st := []) dX6_set_64 ck_X6_64 rfl (by decide) hL2.1.1 rfl rfl ⟨Nat.le_of_ble_eq_true rfl, Nat.le_of_ble_eq_true rfl⟩ (Nat.le_of_ble_eq_true rfl) (Nat.le_of_ble_eq_true rfl) (Nat.le_of_ble_eq_true rfl) (pc' := 67) rfl (k_X6_saves hL2) (fun q19 hq19 eq19 => ?_) (fun _ _ x1 => x1.elim)
              obtain ⟨rfl, hL3, hG3⟩ := eq19
              have hM30 : mI hq19 m 3 = 0 := by rw [hG3.2.2.1 3 (by omega), hM3]; split <;> (try split) <;> (try split) <;> omega
              have mA3 : RM hq19 (m + 1) 0 (lA L) := hL3.2.1
              obtain ⟨nSt, nB, nW, nWl, nWo, nCo, nHe⟩ := id mA3
              refine X.aload_n (i := 0) rfl rfl dX6_set_67 (pc' := 68) rfl ?_
              refine X.getR fk_X6_8 xcl_6 dX6_set_68 hL3.1.1 hL3.1.2.1 (pc' := 71) rfl ?_
              refine X.iload_n (i := 1) rfl rfl dX6_set_71 (pc' := 72) rfl ?_
              refine X.iald (x := aSt (lA L) s) dX6_set_72 hL3.1.2.2.1 (by omega) (by omega) ⟨by omega, by omega⟩ (mI_at (nSt s (by omega) (by omega)) (by omega)) (pc' := 73) rfl (fun r20 => ?_)
              obtain ⟨r20a, r20b⟩ := r20
              refine X.gen (fun had hhad => ?_)
              refine X.istore (i := 4) (ls' := [some (rf m), some (vi s), some (vi k), some (vi r2), some (vi had)]) (hd := dX6_set_73) (by decide) rfl rfl (pc' := 75) rfl ?_
              refine X.aload_n (i := 0) rfl rfl dX6_set_75 (pc' := 76) rfl ?_
              refine X.getR fk_X6_8 xcl_6 dX6_set_76 hL3.1.1 hL3.1.2.1 (pc' := 79) rfl ?_
              refine X.iload_n (i := 1) rfl rfl dX6_set_79 (pc' := 80) rfl ?_
              refine X.iload_n (i := 2) rfl rfl dX6_set_80 (pc' := 81) rfl ?_
              refine X.iast dX6_set_81 hL3.1.2.2.1 (by omega) (by omega) ⟨by omega, by omega⟩ ⟨by omega, by omega⟩ (pc' := 82) rfl ?_
              refine X.genH (fun h21 hh21 => ?_)
              have wh21 : ∀ (w0 : Nat) (w1 : Int), mI h21 w0 w1 = if w0 = (m + 1) ∧ w1 = s then k else mI hq19 w0 w1 := fun _ _ => by rw [hh21]; rfl
              have S22 : MoS h21 m := by rw [hh21]; exact hL3.1
              refine X.iload (i := 4) rfl dX6_set_82 (pc' := 84) rfl ?_
              refine X.iret dX6_set_84 (Or.inl rfl) (Nat.le_of_ble_eq_true rfl) (Nat.le_of_ble_eq_true rfl) ?_
              subst hPR
              have hst : stOK s k := by unfold stOK; omega
              have hF5 : FS hq19 h21 m := by rw [hh21]; exact FS.w FS.rf (by omega)
              have hL5 := hL3.now hF5 (RM_st (s := s) (k := k) mA3 (by omega) (fun j => (wh21 (m + 1) j).trans (by
                by_cases e : j = s
                · rw [if_pos ⟨rfl, by omega⟩, if_pos e]
                · rw [if_neg (by omega), if_neg e]))) (aSSt_ok hA hst) hO.1.1
              exact ⟨(hFq.tr hG3.1).tr hF5.1, _, rfl, Or.inl ⟨⟨by omega, hst, trivial⟩, by rw [hF5.2.1 m (by omega)]; exact hM30, hhad, hL5⟩⟩
            · refine X.iconst dX6_set_61 (pc' := 62) rfl ?_
              refine X.iret dX6_set_62 (Or.inl rfl) (Nat.le_of_ble_eq_true rfl) (Nat.le_of_ble_eq_true rfl) ?_
              subst hPR
              refine ⟨hFq, _, rfl, Or.inr ⟨?_, rfl, hL2⟩⟩
              rw [hM3]
              unfold py3
              (try unfold stOK)
              split <;> (try split) <;> (try split) <;> omega
        · refine X.iconst dX6_set_37 (pc' := 38) rfl ?_
          refine X.goto (tgt := 43) dX6_set_38 (by decide) ?_
          refine X.callS (rm := rm_X6_in) (As := [vi k, vi 0, vi 4]) (st := [vi r2, rf m]) dX6_set_43 ck_X6_32 rfl rfl ⟨Nat.le_of_ble_eq_true rfl, Nat.le_of_ble_eq_true rfl⟩ (Nat.le_of_ble_eq_true rfl) (Nat.le_of_ble_eq_true rfl) (Nat.le_of_ble_eq_true rfl) (pc' := 46) rfl (k_X6_in ⟨by omega, by omega⟩ ⟨by omega, by omega⟩ ⟨by omega, by omega⟩) (fun q23 hq23 eq23 => ?_) (fun _ _ x1 => x1.elim)
          obtain ⟨rfl, r24, rfl, hr24⟩ := eq23
          refine X.if_eq (tgt := 53) dX6_set_46 ⟨by omega, by omega⟩ (by decide) (pc' := 49) rfl (fun c46 => ?_) (fun c46 => ?_)
          · refine X.iconst dX6_set_53 (pc' := 54) rfl ?_
            refine X.iconst dX6_set_54 (pc' := 55) rfl ?_
            refine X.callV (ci := 6) (a := m) (rm := rm_X6_goes) (As := [vi r2, vi 0, vi 1]) (st := []) dX6_set_55 ck_X6_60 rfl (by decide) hL.1.1 rfl rfl ⟨Nat.le_of_ble_eq_true rfl, Nat.le_of_ble_eq_true rfl⟩ (Nat.le_of_ble_eq_true rfl) (Nat.le_of_ble_eq_true rfl) (Nat.le_of_ble_eq_true rfl) (pc' := 58) rfl (k_X6_goes hL.1 (by omega) (by omega) (by omega)) (fun q25 hq25 eq25 => ?_) (fun _ _ x1 => x1.elim)
            obtain ⟨hG, r26, rfl, hr26⟩ := eq25
            have hM3 : mI hq25 m 3 = (if (r2 : Int) = 0 then 1 else if (0 : Int) = 0 then 2 else if (1 : Int) = 0 then 3 else 0) := by rw [hG, mI_sI, if_pos ⟨rfl, rfl⟩]
            have hFq : FM h hq25 m := by rw [hG]; exact FM.rf.w ⟨by omega, by omega⟩
            have hL2 : ML hq25 m L := hL.th hFq (by rw [hG]; funext j; rw [mI_sI, if_neg (by omega)]) (by rw [hG]; funext j; rw [mI_sI, if_neg (by omega)]) (fun j z => by rw [hG, mI_sI, if_neg (by omega)])
            refine X.if_ne (tgt := 63) dX6_set_58 ⟨by omega, by omega⟩ (by decide) (pc' := 61) rfl (fun c58 => ?_) (fun c58 => ?_)
            · refine X.aload_n (i := 0) rfl rfl dX6_set_63 (pc' := 64) rfl ?_
              refine X.callV (ci := 6) (a := m) (rm := rm_X6_saves) (As := []) (st := []) dX6_set_64 ck_X6_64 rfl (by decide) hL2.1.1 rfl rfl ⟨Nat.le_of_ble_eq_true rfl, Nat.le_of_ble_eq_true rfl⟩ (Nat.le_of_ble_eq_true rfl) (Nat.le_of_ble_eq_true rfl) (Nat.le_of_ble_eq_true rfl) (pc' := 67) rfl (k_X6_saves hL2) (fun q27 hq27 eq27 => ?_) (fun _ _ x1 => x1.elim)
              obtain ⟨rfl, hL3, hG3⟩ := eq27
              have hM30 : mI hq27 m 3 = 0 := by rw [hG3.2.2.1 3 (by omega), hM3]; split <;> (try split) <;> (try split) <;> omega
              have mA3 : RM hq27 (m + 1) 0 (lA L) := hL3.2.1
              obtain ⟨nSt, nB, nW, nWl, nWo, nCo, nHe⟩ := id mA3
              refine X.aload_n (i := 0) rfl rfl dX6_set_67 (pc' := 68) rfl ?_
              refine X.getR fk_X6_8 xcl_6 dX6_set_68 hL3.1.1 hL3.1.2.1 (pc' := 71) rfl ?_
              refine X.iload_n (i := 1) rfl rfl dX6_set_71 (pc' := 72) rfl ?_
              refine X.iald (x := aSt (lA L) s) dX6_set_72 hL3.1.2.2.1 (by omega) (by omega) ⟨by omega, by omega⟩ (mI_at (nSt s (by omega) (by omega)) (by omega)) (pc' := 73) rfl (fun r28 => ?_)
              obtain ⟨r28a, r28b⟩ := r28
              refine X.gen (fun had hhad => ?_)
              refine X.istore (i := 4) (ls' := [some (rf m), some (vi s), some (vi k), some (vi r2), some (vi had)]) (hd := dX6_set_73) (by decide) rfl rfl (pc' := 75) rfl ?_
              refine X.aload_n (i := 0) rfl rfl dX6_set_75 (pc' := 76) rfl ?_
              refine X.getR fk_X6_8 xcl_6 dX6_set_76 hL3.1.1 hL3.1.2.1 (pc' := 79) rfl ?_
              refine X.iload_n (i := 1) rfl rfl dX6_set_79 (pc' := 80) rfl ?_
              refine X.iload_n (i := 2) rfl rfl dX6_set_80 (pc' := 81) rfl ?_
              refine X.iast dX6_set_81 hL3.1.2.2.1 (by omega) (by omega) ⟨by omega, by omega⟩ ⟨by omega, by omega⟩ (pc' := 82) rfl ?_
              refine X.genH (fun h29 hh29 => ?_)
              have wh29 : ∀ (w0 : Nat) (w1 : Int), mI h29 w0 w1 = if w0 = (m + 1) ∧ w1 = s then k else mI hq27 w0 w1 := fun _ _ => by rw [hh29]; rfl
              have S30 : MoS h29 m := by rw [hh29]; exact hL3.1
              refine X.iload (i := 4) rfl dX6_set_82 (pc' := 84) rfl ?_
              refine X.iret dX6_set_84 (Or.inl rfl) (Nat.le_of_ble_eq_true rfl) (Nat.le_of_ble_eq_true rfl) ?_
              subst hPR
              have hst : stOK s k := by unfold stOK; omega
              have hF5 : FS hq27 h29 m := by rw [hh29]; exact FS.w FS.rf (by omega)
              have hL5 := hL3.now hF5 (RM_st (s := s) (k := k) mA3 (by omega) (fun j => (wh29 (m + 1) j).trans (by
                by_cases e : j = s
                · rw [if_pos ⟨rfl, by omega⟩, if_pos e]
                · rw [if_neg (by omega), if_neg e]))) (aSSt_ok hA hst) hO.1.1
              exact ⟨(hFq.tr hG3.1).tr hF5.1, _, rfl, Or.inl ⟨⟨by omega, hst, trivial⟩, by rw [hF5.2.1 m (by omega)]; exact hM30, hhad, hL5⟩⟩
            · refine X.iconst dX6_set_61 (pc' := 62) rfl ?_
              refine X.iret dX6_set_62 (Or.inl rfl) (Nat.le_of_ble_eq_true rfl) (Nat.le_of_ble_eq_true rfl) ?_
              subst hPR
              refine ⟨hFq, _, rfl, Or.inr ⟨?_, rfl, hL2⟩⟩
              rw [hM3]
              unfold py3
              (try unfold stOK)
              split <;> (try split) <;> (try split) <;> omega
          · refine X.iconst dX6_set_49 (pc' := 50) rfl ?_
            refine X.goto (tgt := 54) dX6_set_50 (by decide) ?_
            refine X.iconst dX6_set_54 (pc' := 55) rfl ?_
            refine X.callV (ci := 6) (a := m) (rm := rm_X6_goes) (As := [vi r2, vi 1, vi 1]) (st := []) dX6_set_55 ck_X6_60 rfl (by decide) hL.1.1 rfl rfl ⟨Nat.le_of_ble_eq_true rfl, Nat.le_of_ble_eq_true rfl⟩ (Nat.le_of_ble_eq_true rfl) (Nat.le_of_ble_eq_true rfl) (Nat.le_of_ble_eq_true rfl) (pc' := 58) rfl (k_X6_goes hL.1 (by omega) (by omega) (by omega)) (fun q31 hq31 eq31 => ?_) (fun _ _ x1 => x1.elim)
            obtain ⟨hG, r32, rfl, hr32⟩ := eq31
            have hM3 : mI hq31 m 3 = (if (r2 : Int) = 0 then 1 else if (1 : Int) = 0 then 2 else if (1 : Int) = 0 then 3 else 0) := by rw [hG, mI_sI, if_pos ⟨rfl, rfl⟩]
            have hFq : FM h hq31 m := by rw [hG]; exact FM.rf.w ⟨by omega, by omega⟩
            have hL2 : ML hq31 m L := hL.th hFq (by rw [hG]; funext j; rw [mI_sI, if_neg (by omega)]) (by rw [hG]; funext j; rw [mI_sI, if_neg (by omega)]) (fun j z => by rw [hG, mI_sI, if_neg (by omega)])
            refine X.if_ne (tgt := 63) dX6_set_58 ⟨by omega, by omega⟩ (by decide) (pc' := 61) rfl (fun c58 => ?_) (fun c58 => ?_)
            · refine X.aload_n (i := 0) rfl rfl dX6_set_63 (pc' := 64) rfl ?_
              refine X.callV (ci := 6) (a := m) (rm := rm_X6_saves) (As := []) (st := []) dX6_set_64 ck_X6_64 rfl (by decide) hL2.1.1 rfl rfl ⟨Nat.le_of_ble_eq_true rfl, Nat.le_of_ble_eq_true rfl⟩ (Nat.le_of_ble_eq_true rfl) (Nat.le_of_ble_eq_true rfl) (Nat.le_of_ble_eq_true rfl) (pc' := 67) rfl (k_X6_saves hL2) (fun q33 hq33 eq33 => ?_) (fun _ _ x1 => x1.elim)
              obtain ⟨rfl, hL3, hG3⟩ := eq33
              have hM30 : mI hq33 m 3 = 0 := by rw [hG3.2.2.1 3 (by omega), hM3]; split <;> (try split) <;> (try split) <;> omega
              have mA3 : RM hq33 (m + 1) 0 (lA L) := hL3.2.1
              obtain ⟨nSt, nB, nW, nWl, nWo, nCo, nHe⟩ := id mA3
              refine X.aload_n (i := 0) rfl rfl dX6_set_67 (pc' := 68) rfl ?_
              refine X.getR fk_X6_8 xcl_6 dX6_set_68 hL3.1.1 hL3.1.2.1 (pc' := 71) rfl ?_
              refine X.iload_n (i := 1) rfl rfl dX6_set_71 (pc' := 72) rfl ?_
              refine X.iald (x := aSt (lA L) s) dX6_set_72 hL3.1.2.2.1 (by omega) (by omega) ⟨by omega, by omega⟩ (mI_at (nSt s (by omega) (by omega)) (by omega)) (pc' := 73) rfl (fun r34 => ?_)
              obtain ⟨r34a, r34b⟩ := r34
              refine X.gen (fun had hhad => ?_)
              refine X.istore (i := 4) (ls' := [some (rf m), some (vi s), some (vi k), some (vi r2), some (vi had)]) (hd := dX6_set_73) (by decide) rfl rfl (pc' := 75) rfl ?_
              refine X.aload_n (i := 0) rfl rfl dX6_set_75 (pc' := 76) rfl ?_
              refine X.getR fk_X6_8 xcl_6 dX6_set_76 hL3.1.1 hL3.1.2.1 (pc' := 79) rfl ?_
              refine X.iload_n (i := 1) rfl rfl dX6_set_79 (pc' := 80) rfl ?_
              refine X.iload_n (i := 2) rfl rfl dX6_set_80 (pc' := 81) rfl ?_
              refine X.iast dX6_set_81 hL3.1.2.2.1 (by omega) (by omega) ⟨by omega, by omega⟩ ⟨by omega, by omega⟩ (pc' := 82) rfl ?_
              refine X.genH (fun h35 hh35 => ?_)
              have wh35 : ∀ (w0 : Nat) (w1 : Int), mI h35 w0 w1 = if w0 = (m + 1) ∧ w1 = s then k else mI hq33 w0 w1 := fun _ _ => by rw [hh35]; rfl
              have S36 : MoS h35 m := by rw [hh35]; exact hL3.1
              refine X.iload (i := 4) rfl dX6_set_82 (pc' := 84) rfl ?_
              refine X.iret dX6_set_84 (Or.inl rfl) (Nat.le_of_ble_eq_true rfl) (Nat.le_of_ble_eq_true rfl) ?_
              subst hPR
              have hst : stOK s k := by unfold stOK; omega
              have hF5 : FS hq33 h35 m := by rw [hh35]; exact FS.w FS.rf (by omega)
              have hL5 := hL3.now hF5 (RM_st (s := s) (k := k) mA3 (by omega) (fun j => (wh35 (m + 1) j).trans (by
                by_cases e : j = s
                · rw [if_pos ⟨rfl, by omega⟩, if_pos e]
                · rw [if_neg (by omega), if_neg e]))) (aSSt_ok hA hst) hO.1.1
              exact ⟨(hFq.tr hG3.1).tr hF5.1, _, rfl, Or.inl ⟨⟨by omega, hst, trivial⟩, by rw [hF5.2.1 m (by omega)]; exact hM30, hhad, hL5⟩⟩
            · refine X.iconst dX6_set_61 (pc' := 62) rfl ?_
              refine X.iret dX6_set_62 (Or.inl rfl) (Nat.le_of_ble_eq_true rfl) (Nat.le_of_ble_eq_true rfl) ?_
              subst hPR
              refine ⟨hFq, _, rfl, Or.inr ⟨?_, rfl, hL2⟩⟩
              rw [hM3]
              unfold py3
              (try unfold stOK)
              split <;> (try split) <;> (try split) <;> omega
      · refine X.iconst dX6_set_28 (pc' := 29) rfl ?_
        refine X.goto (tgt := 43) dX6_set_29 (by decide) ?_
        refine X.callS (rm := rm_X6_in) (As := [vi k, vi 0, vi 5]) (st := [vi r2, rf m]) dX6_set_43 ck_X6_32 rfl rfl ⟨Nat.le_of_ble_eq_true rfl, Nat.le_of_ble_eq_true rfl⟩ (Nat.le_of_ble_eq_true rfl) (Nat.le_of_ble_eq_true rfl) (Nat.le_of_ble_eq_true rfl) (pc' := 46) rfl (k_X6_in ⟨by omega, by omega⟩ ⟨by omega, by omega⟩ ⟨by omega, by omega⟩) (fun q37 hq37 eq37 => ?_) (fun _ _ x1 => x1.elim)
        obtain ⟨rfl, r38, rfl, hr38⟩ := eq37
        refine X.if_eq (tgt := 53) dX6_set_46 ⟨by omega, by omega⟩ (by decide) (pc' := 49) rfl (fun c46 => ?_) (fun c46 => ?_)
        · refine X.iconst dX6_set_53 (pc' := 54) rfl ?_
          refine X.iconst dX6_set_54 (pc' := 55) rfl ?_
          refine X.callV (ci := 6) (a := m) (rm := rm_X6_goes) (As := [vi r2, vi 0, vi 1]) (st := []) dX6_set_55 ck_X6_60 rfl (by decide) hL.1.1 rfl rfl ⟨Nat.le_of_ble_eq_true rfl, Nat.le_of_ble_eq_true rfl⟩ (Nat.le_of_ble_eq_true rfl) (Nat.le_of_ble_eq_true rfl) (Nat.le_of_ble_eq_true rfl) (pc' := 58) rfl (k_X6_goes hL.1 (by omega) (by omega) (by omega)) (fun q39 hq39 eq39 => ?_) (fun _ _ x1 => x1.elim)
          obtain ⟨hG, r40, rfl, hr40⟩ := eq39
          have hM3 : mI hq39 m 3 = (if (r2 : Int) = 0 then 1 else if (0 : Int) = 0 then 2 else if (1 : Int) = 0 then 3 else 0) := by rw [hG, mI_sI, if_pos ⟨rfl, rfl⟩]
          have hFq : FM h hq39 m := by rw [hG]; exact FM.rf.w ⟨by omega, by omega⟩
          have hL2 : ML hq39 m L := hL.th hFq (by rw [hG]; funext j; rw [mI_sI, if_neg (by omega)]) (by rw [hG]; funext j; rw [mI_sI, if_neg (by omega)]) (fun j z => by rw [hG, mI_sI, if_neg (by omega)])
          refine X.if_ne (tgt := 63) dX6_set_58 ⟨by omega, by omega⟩ (by decide) (pc' := 61) rfl (fun c58 => ?_) (fun c58 => ?_)
          · refine X.aload_n (i := 0) rfl rfl dX6_set_63 (pc' := 64) rfl ?_
            refine X.callV (ci := 6) (a := m) (rm := rm_X6_saves) (As := []) (st := []) dX6_set_64 ck_X6_64 rfl (by decide) hL2.1.1 rfl rfl ⟨Nat.le_of_ble_eq_true rfl, Nat.le_of_ble_eq_true rfl⟩ (Nat.le_of_ble_eq_true rfl) (Nat.le_of_ble_eq_true rfl) (Nat.le_of_ble_eq_true rfl) (pc' := 67) rfl (k_X6_saves hL2) (fun q41 hq41 eq41 => ?_) (fun _ _ x1 => x1.elim)
            obtain ⟨rfl, hL3, hG3⟩ := eq41
            have hM30 : mI hq41 m 3 = 0 := by rw [hG3.2.2.1 3 (by omega), hM3]; split <;> (try split) <;> (try split) <;> omega
            have mA3 : RM hq41 (m + 1) 0 (lA L) := hL3.2.1
            obtain ⟨nSt, nB, nW, nWl, nWo, nCo, nHe⟩ := id mA3
            refine X.aload_n (i := 0) rfl rfl dX6_set_67 (pc' := 68) rfl ?_
            refine X.getR fk_X6_8 xcl_6 dX6_set_68 hL3.1.1 hL3.1.2.1 (pc' := 71) rfl ?_
            refine X.iload_n (i := 1) rfl rfl dX6_set_71 (pc' := 72) rfl ?_
            refine X.iald (x := aSt (lA L) s) dX6_set_72 hL3.1.2.2.1 (by omega) (by omega) ⟨by omega, by omega⟩ (mI_at (nSt s (by omega) (by omega)) (by omega)) (pc' := 73) rfl (fun r42 => ?_)
            obtain ⟨r42a, r42b⟩ := r42
            refine X.gen (fun had hhad => ?_)
            refine X.istore (i := 4) (ls' := [some (rf m), some (vi s), some (vi k), some (vi r2), some (vi had)]) (hd := dX6_set_73) (by decide) rfl rfl (pc' := 75) rfl ?_
            refine X.aload_n (i := 0) rfl rfl dX6_set_75 (pc' := 76) rfl ?_
            refine X.getR fk_X6_8 xcl_6 dX6_set_76 hL3.1.1 hL3.1.2.1 (pc' := 79) rfl ?_
            refine X.iload_n (i := 1) rfl rfl dX6_set_79 (pc' := 80) rfl ?_
            refine X.iload_n (i := 2) rfl rfl dX6_set_80 (pc' := 81) rfl ?_
            refine X.iast dX6_set_81 hL3.1.2.2.1 (by omega) (by omega) ⟨by omega, by omega⟩ ⟨by omega, by omega⟩ (pc' := 82) rfl ?_
            refine X.genH (fun h43 hh43 => ?_)
            have wh43 : ∀ (w0 : Nat) (w1 : Int), mI h43 w0 w1 = if w0 = (m + 1) ∧ w1 = s then k else mI hq41 w0 w1 := fun _ _ => by rw [hh43]; rfl
            have S44 : MoS h43 m := by rw [hh43]; exact hL3.1
            refine X.iload (i := 4) rfl dX6_set_82 (pc' := 84) rfl ?_
            refine X.iret dX6_set_84 (Or.inl rfl) (Nat.le_of_ble_eq_true rfl) (Nat.le_of_ble_eq_true rfl) ?_
            subst hPR
            have hst : stOK s k := by unfold stOK; omega
            have hF5 : FS hq41 h43 m := by rw [hh43]; exact FS.w FS.rf (by omega)
            have hL5 := hL3.now hF5 (RM_st (s := s) (k := k) mA3 (by omega) (fun j => (wh43 (m + 1) j).trans (by
              by_cases e : j = s
              · rw [if_pos ⟨rfl, by omega⟩, if_pos e]
              · rw [if_neg (by omega), if_neg e]))) (aSSt_ok hA hst) hO.1.1
            exact ⟨(hFq.tr hG3.1).tr hF5.1, _, rfl, Or.inl ⟨⟨by omega, hst, trivial⟩, by rw [hF5.2.1 m (by omega)]; exact hM30, hhad, hL5⟩⟩
          · refine X.iconst dX6_set_61 (pc' := 62) rfl ?_
            refine X.iret dX6_set_62 (Or.inl rfl) (Nat.le_of_ble_eq_true rfl) (Nat.le_of_ble_eq_true rfl) ?_
            subst hPR
            refine ⟨hFq, _, rfl, Or.inr ⟨?_, rfl, hL2⟩⟩
            rw [hM3]
            unfold py3
            (try unfold stOK)
            split <;> (try split) <;> (try split) <;> omega
        · refine X.iconst dX6_set_49 (pc' := 50) rfl ?_
          refine X.goto (tgt := 54) dX6_set_50 (by decide) ?_
          refine X.iconst dX6_set_54 (pc' := 55) rfl ?_
          refine X.callV (ci := 6) (a := m) (rm := rm_X6_goes) (As := [vi r2, vi 1, vi 1]) (st := []) dX6_set_55 ck_X6_60 rfl (by decide) hL.1.1 rfl rfl ⟨Nat.le_of_ble_eq_true rfl, Nat.le_of_ble_eq_true rfl⟩ (Nat.le_of_ble_eq_true rfl) (Nat.le_of_ble_eq_true rfl) (Nat.le_of_ble_eq_true rfl) (pc' := 58) rfl (k_X6_goes hL.1 (by omega) (by omega) (by omega)) (fun q45 hq45 eq45 => ?_) (fun _ _ x1 => x1.elim)
          obtain ⟨hG, r46, rfl, hr46⟩ := eq45
          have hM3 : mI hq45 m 3 = (if (r2 : Int) = 0 then 1 else if (1 : Int) = 0 then 2 else if (1 : Int) = 0 then 3 else 0) := by rw [hG, mI_sI, if_pos ⟨rfl, rfl⟩]
          have hFq : FM h hq45 m := by rw [hG]; exact FM.rf.w ⟨by omega, by omega⟩
          have hL2 : ML hq45 m L := hL.th hFq (by rw [hG]; funext j; rw [mI_sI, if_neg (by omega)]) (by rw [hG]; funext j; rw [mI_sI, if_neg (by omega)]) (fun j z => by rw [hG, mI_sI, if_neg (by omega)])
          refine X.if_ne (tgt := 63) dX6_set_58 ⟨by omega, by omega⟩ (by decide) (pc' := 61) rfl (fun c58 => ?_) (fun c58 => ?_)
          · refine X.aload_n (i := 0) rfl rfl dX6_set_63 (pc' := 64) rfl ?_
            refine X.callV (ci := 6) (a := m) (rm := rm_X6_saves) (As := []) (st := []) dX6_set_64 ck_X6_64 rfl (by decide) hL2.1.1 rfl rfl ⟨Nat.le_of_ble_eq_true rfl, Nat.le_of_ble_eq_true rfl⟩ (Nat.le_of_ble_eq_true rfl) (Nat.le_of_ble_eq_true rfl) (Nat.le_of_ble_eq_true rfl) (pc' := 67) rfl (k_X6_saves hL2) (fun q47 hq47 eq47 => ?_) (fun _ _ x1 => x1.elim)
            obtain ⟨rfl, hL3, hG3⟩ := eq47
            have hM30 : mI hq47 m 3 = 0 := by rw [hG3.2.2.1 3 (by omega), hM3]; split <;> (try split) <;> (try split) <;> omega
            have mA3 : RM hq47 (m + 1) 0 (lA L) := hL3.2.1
            obtain ⟨nSt, nB, nW, nWl, nWo, nCo, nHe⟩ := id mA3
            refine X.aload_n (i := 0) rfl rfl dX6_set_67 (pc' := 68) rfl ?_
            refine X.getR fk_X6_8 xcl_6 dX6_set_68 hL3.1.1 hL3.1.2.1 (pc' := 71) rfl ?_
            refine X.iload_n (i := 1) rfl rfl dX6_set_71 (pc' := 72) rfl ?_
            refine X.iald (x := aSt (lA L) s) dX6_set_72 hL3.1.2.2.1 (by omega) (by omega) ⟨by omega, by omega⟩ (mI_at (nSt s (by omega) (by omega)) (by omega)) (pc' := 73) rfl (fun r48 => ?_)
            obtain ⟨r48a, r48b⟩ := r48
            refine X.gen (fun had hhad => ?_)
            refine X.istore (i := 4) (ls' := [some (rf m), some (vi s), some (vi k), some (vi r2), some (vi had)]) (hd := dX6_set_73) (by decide) rfl rfl (pc' := 75) rfl ?_
            refine X.aload_n (i := 0) rfl rfl dX6_set_75 (pc' := 76) rfl ?_
            refine X.getR fk_X6_8 xcl_6 dX6_set_76 hL3.1.1 hL3.1.2.1 (pc' := 79) rfl ?_
            refine X.iload_n (i := 1) rfl rfl dX6_set_79 (pc' := 80) rfl ?_
            refine X.iload_n (i := 2) rfl rfl dX6_set_80 (pc' := 81) rfl ?_
            refine X.iast dX6_set_81 hL3.1.2.2.1 (by omega) (by omega) ⟨by omega, by omega⟩ ⟨by omega, by omega⟩ (pc' := 82) rfl ?_
            refine X.genH (fun h49 hh49 => ?_)
            have wh49 : ∀ (w0 : Nat) (w1 : Int), mI h49 w0 w1 = if w0 = (m + 1) ∧ w1 = s then k else mI hq47 w0 w1 := fun _ _ => by rw [hh49]; rfl
            have S50 : MoS h49 m := by rw [hh49]; exact hL3.1
            refine X.iload (i := 4) rfl dX6_set_82 (pc' := 84) rfl ?_
            refine X.iret dX6_set_84 (Or.inl rfl) (Nat.le_of_ble_eq_true rfl) (Nat.le_of_ble_eq_true rfl) ?_
            subst hPR
            have hst : stOK s k := by unfold stOK; omega
            have hF5 : FS hq47 h49 m := by rw [hh49]; exact FS.w FS.rf (by omega)
            have hL5 := hL3.now hF5 (RM_st (s := s) (k := k) mA3 (by omega) (fun j => (wh49 (m + 1) j).trans (by
              by_cases e : j = s
              · rw [if_pos ⟨rfl, by omega⟩, if_pos e]
              · rw [if_neg (by omega), if_neg e]))) (aSSt_ok hA hst) hO.1.1
            exact ⟨(hFq.tr hG3.1).tr hF5.1, _, rfl, Or.inl ⟨⟨by omega, hst, trivial⟩, by rw [hF5.2.1 m (by omega)]; exact hM30, hhad, hL5⟩⟩
          · refine X.iconst dX6_set_61 (pc' := 62) rfl ?_
            refine X.iret dX6_set_62 (Or.inl rfl) (Nat.le_of_ble_eq_true rfl) (Nat.le_of_ble_eq_true rfl) ?_
            subst hPR
            refine ⟨hFq, _, rfl, Or.inr ⟨?_, rfl, hL2⟩⟩
            rw [hM3]
            unfold py3
            (try unfold stOK)
            split <;> (try split) <;> (try split) <;> omega
    · refine X.iconst dX6_set_19 (pc' := 20) rfl ?_
      refine X.goto (tgt := 24) dX6_set_20 (by decide) ?_
      refine X.iload_n (i := 1) rfl rfl dX6_set_24 (pc' := 25) rfl ?_
      refine X.if_ne (tgt := 32) dX6_set_25 ⟨by omega, by omega⟩ (by decide) (pc' := 28) rfl (fun c25 => ?_) (fun c25 => ?_)
      · refine X.iload_n (i := 1) rfl rfl dX6_set_32 (pc' := 33) rfl ?_
        refine X.iconst dX6_set_33 (pc' := 34) rfl ?_
        refine X.icmp_ne (tgt := 41) dX6_set_34 ⟨by omega, by omega⟩ ⟨by omega, by omega⟩ (by decide) (pc' := 37) rfl (fun c34 => ?_) (fun c34 => ?_)
        · refine X.bipush (by decide +kernel) dX6_set_41 (pc' := 43) rfl ?_
          refine X.callS (rm := rm_X6_in) (As := [vi k, vi 1, vi 50]) (st := [vi r2, rf m]) dX6_set_43 ck_X6_32 rfl rfl ⟨Nat.le_of_ble_eq_true rfl, Nat.le_of_ble_eq_true rfl⟩ (Nat.le_of_ble_eq_true rfl) (Nat.le_of_ble_eq_true rfl) (Nat.le_of_ble_eq_true rfl) (pc' := 46) rfl (k_X6_in ⟨by omega, by omega⟩ ⟨by omega, by omega⟩ ⟨by omega, by omega⟩) (fun q51 hq51 eq51 => ?_) (fun _ _ x1 => x1.elim)
          obtain ⟨rfl, r52, rfl, hr52⟩ := eq51
          refine X.if_eq (tgt := 53) dX6_set_46 ⟨by omega, by omega⟩ (by decide) (pc' := 49) rfl (fun c46 => ?_) (fun c46 => ?_)
          · refine X.iconst dX6_set_53 (pc' := 54) rfl ?_
            refine X.iconst dX6_set_54 (pc' := 55) rfl ?_
            refine X.callV (ci := 6) (a := m) (rm := rm_X6_goes) (As := [vi r2, vi 0, vi 1]) (st := []) dX6_set_55 ck_X6_60 rfl (by decide) hL.1.1 rfl rfl ⟨Nat.le_of_ble_eq_true rfl, Nat.le_of_ble_eq_true rfl⟩ (Nat.le_of_ble_eq_true rfl) (Nat.le_of_ble_eq_true rfl) (Nat.le_of_ble_eq_true rfl) (pc' := 58) rfl (k_X6_goes hL.1 (by omega) (by omega) (by omega)) (fun q53 hq53 eq53 => ?_) (fun _ _ x1 => x1.elim)
            obtain ⟨hG, r54, rfl, hr54⟩ := eq53
            have hM3 : mI hq53 m 3 = (if (r2 : Int) = 0 then 1 else if (0 : Int) = 0 then 2 else if (1 : Int) = 0 then 3 else 0) := by rw [hG, mI_sI, if_pos ⟨rfl, rfl⟩]
            have hFq : FM h hq53 m := by rw [hG]; exact FM.rf.w ⟨by omega, by omega⟩
            have hL2 : ML hq53 m L := hL.th hFq (by rw [hG]; funext j; rw [mI_sI, if_neg (by omega)]) (by rw [hG]; funext j; rw [mI_sI, if_neg (by omega)]) (fun j z => by rw [hG, mI_sI, if_neg (by omega)])
            refine X.if_ne (tgt := 63) dX6_set_58 ⟨by omega, by omega⟩ (by decide) (pc' := 61) rfl (fun c58 => ?_) (fun c58 => ?_)
            · refine X.aload_n (i := 0) rfl rfl dX6_set_63 (pc' := 64) rfl ?_
              refine X.callV (ci := 6) (a := m) (rm := rm_X6_saves) (As := []) (st := []) dX6_set_64 ck_X6_64 rfl (by decide) hL2.1.1 rfl rfl ⟨Nat.le_of_ble_eq_true rfl, Nat.le_of_ble_eq_true rfl⟩ (Nat.le_of_ble_eq_true rfl) (Nat.le_of_ble_eq_true rfl) (Nat.le_of_ble_eq_true rfl) (pc' := 67) rfl (k_X6_saves hL2) (fun q55 hq55 eq55 => ?_) (fun _ _ x1 => x1.elim)
              obtain ⟨rfl, hL3, hG3⟩ := eq55
              have hM30 : mI hq55 m 3 = 0 := by rw [hG3.2.2.1 3 (by omega), hM3]; split <;> (try split) <;> (try split) <;> omega
              have mA3 : RM hq55 (m + 1) 0 (lA L) := hL3.2.1
              obtain ⟨nSt, nB, nW, nWl, nWo, nCo, nHe⟩ := id mA3
              refine X.aload_n (i := 0) rfl rfl dX6_set_67 (pc' := 68) rfl ?_
              refine X.getR fk_X6_8 xcl_6 dX6_set_68 hL3.1.1 hL3.1.2.1 (pc' := 71) rfl ?_
              refine X.iload_n (i := 1) rfl rfl dX6_set_71 (pc' := 72) rfl ?_
              refine X.iald (x := aSt (lA L) s) dX6_set_72 hL3.1.2.2.1 (by omega) (by omega) ⟨by omega, by omega⟩ (mI_at (nSt s (by omega) (by omega)) (by omega)) (pc' := 73) rfl (fun r56 => ?_)
              obtain ⟨r56a, r56b⟩ := r56
              refine X.gen (fun had hhad => ?_)
              refine X.istore (i := 4) (ls' := [some (rf m), some (vi s), some (vi k), some (vi r2), some (vi had)]) (hd := dX6_set_73) (by decide) rfl rfl (pc' := 75) rfl ?_
              refine X.aload_n (i := 0) rfl rfl dX6_set_75 (pc' := 76) rfl ?_
              refine X.getR fk_X6_8 xcl_6 dX6_set_76 hL3.1.1 hL3.1.2.1 (pc' := 79) rfl ?_
              refine X.iload_n (i := 1) rfl rfl dX6_set_79 (pc' := 80) rfl ?_
              refine X.iload_n (i := 2) rfl rfl dX6_set_80 (pc' := 81) rfl ?_
              refine X.iast dX6_set_81 hL3.1.2.2.1 (by omega) (by omega) ⟨by omega, by omega⟩ ⟨by omega, by omega⟩ (pc' := 82) rfl ?_
              refine X.genH (fun h57 hh57 => ?_)
              have wh57 : ∀ (w0 : Nat) (w1 : Int), mI h57 w0 w1 = if w0 = (m + 1) ∧ w1 = s then k else mI hq55 w0 w1 := fun _ _ => by rw [hh57]; rfl
              have S58 : MoS h57 m := by rw [hh57]; exact hL3.1
              refine X.iload (i := 4) rfl dX6_set_82 (pc' := 84) rfl ?_
              refine X.iret dX6_set_84 (Or.inl rfl) (Nat.le_of_ble_eq_true rfl) (Nat.le_of_ble_eq_true rfl) ?_
              subst hPR
              have hst : stOK s k := by unfold stOK; omega
              have hF5 : FS hq55 h57 m := by rw [hh57]; exact FS.w FS.rf (by omega)
              have hL5 := hL3.now hF5 (RM_st (s := s) (k := k) mA3 (by omega) (fun j => (wh57 (m + 1) j).trans (by
                by_cases e : j = s
                · rw [if_pos ⟨rfl, by omega⟩, if_pos e]
                · rw [if_neg (by omega), if_neg e]))) (aSSt_ok hA hst) hO.1.1
              exact ⟨(hFq.tr hG3.1).tr hF5.1, _, rfl, Or.inl ⟨⟨by omega, hst, trivial⟩, by rw [hF5.2.1 m (by omega)]; exact hM30, hhad, hL5⟩⟩
            · refine X.iconst dX6_set_61 (pc' := 62) rfl ?_
              refine X.iret dX6_set_62 (Or.inl rfl) (Nat.le_of_ble_eq_true rfl) (Nat.le_of_ble_eq_true rfl) ?_
              subst hPR
              refine ⟨hFq, _, rfl, Or.inr ⟨?_, rfl, hL2⟩⟩
              rw [hM3]
              unfold py3
              (try unfold stOK)
              split <;> (try split) <;> (try split) <;> omega
          · refine X.iconst dX6_set_49 (pc' := 50) rfl ?_
            refine X.goto (tgt := 54) dX6_set_50 (by decide) ?_
            refine X.iconst dX6_set_54 (pc' := 55) rfl ?_
            refine X.callV (ci := 6) (a := m) (rm := rm_X6_goes) (As := [vi r2, vi 1, vi 1]) (st := []) dX6_set_55 ck_X6_60 rfl (by decide) hL.1.1 rfl rfl ⟨Nat.le_of_ble_eq_true rfl, Nat.le_of_ble_eq_true rfl⟩ (Nat.le_of_ble_eq_true rfl) (Nat.le_of_ble_eq_true rfl) (Nat.le_of_ble_eq_true rfl) (pc' := 58) rfl (k_X6_goes hL.1 (by omega) (by omega) (by omega)) (fun q59 hq59 eq59 => ?_) (fun _ _ x1 => x1.elim)
            obtain ⟨hG, r60, rfl, hr60⟩ := eq59
            have hM3 : mI hq59 m 3 = (if (r2 : Int) = 0 then 1 else if (1 : Int) = 0 then 2 else if (1 : Int) = 0 then 3 else 0) := by rw [hG, mI_sI, if_pos ⟨rfl, rfl⟩]
            have hFq : FM h hq59 m := by rw [hG]; exact FM.rf.w ⟨by omega, by omega⟩
            have hL2 : ML hq59 m L := hL.th hFq (by rw [hG]; funext j; rw [mI_sI, if_neg (by omega)]) (by rw [hG]; funext j; rw [mI_sI, if_neg (by omega)]) (fun j z => by rw [hG, mI_sI, if_neg (by omega)])
            refine X.if_ne (tgt := 63) dX6_set_58 ⟨by omega, by omega⟩ (by decide) (pc' := 61) rfl (fun c58 => ?_) (fun c58 => ?_)
            · refine X.aload_n (i := 0) rfl rfl dX6_set_63 (pc' := 64) rfl ?_
              refine X.callV (ci := 6) (a := m) (rm := rm_X6_saves) (As := []) (st := []) dX6_set_64 ck_X6_64 rfl (by decide) hL2.1.1 rfl rfl ⟨Nat.le_of_ble_eq_true rfl, Nat.le_of_ble_eq_true rfl⟩ (Nat.le_of_ble_eq_true rfl) (Nat.le_of_ble_eq_true rfl) (Nat.le_of_ble_eq_true rfl) (pc' := 67) rfl (k_X6_saves hL2) (fun q61 hq61 eq61 => ?_) (fun _ _ x1 => x1.elim)
              obtain ⟨rfl, hL3, hG3⟩ := eq61
              have hM30 : mI hq61 m 3 = 0 := by rw [hG3.2.2.1 3 (by omega), hM3]; split <;> (try split) <;> (try split) <;> omega
              have mA3 : RM hq61 (m + 1) 0 (lA L) := hL3.2.1
              obtain ⟨nSt, nB, nW, nWl, nWo, nCo, nHe⟩ := id mA3
              refine X.aload_n (i := 0) rfl rfl dX6_set_67 (pc' := 68) rfl ?_
              refine X.getR fk_X6_8 xcl_6 dX6_set_68 hL3.1.1 hL3.1.2.1 (pc' := 71) rfl ?_
              refine X.iload_n (i := 1) rfl rfl dX6_set_71 (pc' := 72) rfl ?_
              refine X.iald (x := aSt (lA L) s) dX6_set_72 hL3.1.2.2.1 (by omega) (by omega) ⟨by omega, by omega⟩ (mI_at (nSt s (by omega) (by omega)) (by omega)) (pc' := 73) rfl (fun r62 => ?_)
              obtain ⟨r62a, r62b⟩ := r62
              refine X.gen (fun had hhad => ?_)
              refine X.istore (i := 4) (ls' := [some (rf m), some (vi s), some (vi k), some (vi r2), some (vi had)]) (hd := dX6_set_73) (by decide) rfl rfl (pc' := 75) rfl ?_
              refine X.aload_n (i := 0) rfl rfl dX6_set_75 (pc' := 76) rfl ?_
              refine X.getR fk_X6_8 xcl_6 dX6_set_76 hL3.1.1 hL3.1.2.1 (pc' := 79) rfl ?_
              refine X.iload_n (i := 1) rfl rfl dX6_set_79 (pc' := 80) rfl ?_
              refine X.iload_n (i := 2) rfl rfl dX6_set_80 (pc' := 81) rfl ?_
              refine X.iast dX6_set_81 hL3.1.2.2.1 (by omega) (by omega) ⟨by omega, by omega⟩ ⟨by omega, by omega⟩ (pc' := 82) rfl ?_
              refine X.genH (fun h63 hh63 => ?_)
              have wh63 : ∀ (w0 : Nat) (w1 : Int), mI h63 w0 w1 = if w0 = (m + 1) ∧ w1 = s then k else mI hq61 w0 w1 := fun _ _ => by rw [hh63]; rfl
              have S64 : MoS h63 m := by rw [hh63]; exact hL3.1
              refine X.iload (i := 4) rfl dX6_set_82 (pc' := 84) rfl ?_
              refine X.iret dX6_set_84 (Or.inl rfl) (Nat.le_of_ble_eq_true rfl) (Nat.le_of_ble_eq_true rfl) ?_
              subst hPR
              have hst : stOK s k := by unfold stOK; omega
              have hF5 : FS hq61 h63 m := by rw [hh63]; exact FS.w FS.rf (by omega)
              have hL5 := hL3.now hF5 (RM_st (s := s) (k := k) mA3 (by omega) (fun j => (wh63 (m + 1) j).trans (by
                by_cases e : j = s
                · rw [if_pos ⟨rfl, by omega⟩, if_pos e]
                · rw [if_neg (by omega), if_neg e]))) (aSSt_ok hA hst) hO.1.1
              exact ⟨(hFq.tr hG3.1).tr hF5.1, _, rfl, Or.inl ⟨⟨by omega, hst, trivial⟩, by rw [hF5.2.1 m (by omega)]; exact hM30, hhad, hL5⟩⟩
            · refine X.iconst dX6_set_61 (pc' := 62) rfl ?_
              refine X.iret dX6_set_62 (Or.inl rfl) (Nat.le_of_ble_eq_true rfl) (Nat.le_of_ble_eq_true rfl) ?_
              subst hPR
              refine ⟨hFq, _, rfl, Or.inr ⟨?_, rfl, hL2⟩⟩
              rw [hM3]
              unfold py3
              (try unfold stOK)
              split <;> (try split) <;> (try split) <;> omega
        · refine X.iconst dX6_set_37 (pc' := 38) rfl ?_
          refine X.goto (tgt := 43) dX6_set_38 (by decide) ?_
          refine X.callS (rm := rm_X6_in) (As := [vi k, vi 1, vi 4]) (st := [vi r2, rf m]) dX6_set_43 ck_X6_32 rfl rfl ⟨Nat.le_of_ble_eq_true rfl, Nat.le_of_ble_eq_true rfl⟩ (Nat.le_of_ble_eq_true rfl) (Nat.le_of_ble_eq_true rfl) (Nat.le_of_ble_eq_true rfl) (pc' := 46) rfl (k_X6_in ⟨by omega, by omega⟩ ⟨by omega, by omega⟩ ⟨by omega, by omega⟩) (fun q65 hq65 eq65 => ?_) (fun _ _ x1 => x1.elim)
          obtain ⟨rfl, r66, rfl, hr66⟩ := eq65
          refine X.if_eq (tgt := 53) dX6_set_46 ⟨by omega, by omega⟩ (by decide) (pc' := 49) rfl (fun c46 => ?_) (fun c46 => ?_)
          · refine X.iconst dX6_set_53 (pc' := 54) rfl ?_
            refine X.iconst dX6_set_54 (pc' := 55) rfl ?_
            refine X.callV (ci := 6) (a := m) (rm := rm_X6_goes) (As := [vi r2, vi 0, vi 1]) (st := []) dX6_set_55 ck_X6_60 rfl (by decide) hL.1.1 rfl rfl ⟨Nat.le_of_ble_eq_true rfl, Nat.le_of_ble_eq_true rfl⟩ (Nat.le_of_ble_eq_true rfl) (Nat.le_of_ble_eq_true rfl) (Nat.le_of_ble_eq_true rfl) (pc' := 58) rfl (k_X6_goes hL.1 (by omega) (by omega) (by omega)) (fun q67 hq67 eq67 => ?_) (fun _ _ x1 => x1.elim)
            obtain ⟨hG, r68, rfl, hr68⟩ := eq67
            have hM3 : mI hq67 m 3 = (if (r2 : Int) = 0 then 1 else if (0 : Int) = 0 then 2 else if (1 : Int) = 0 then 3 else 0) := by rw [hG, mI_sI, if_pos ⟨rfl, rfl⟩]
            have hFq : FM h hq67 m := by rw [hG]; exact FM.rf.w ⟨by omega, by omega⟩
            have hL2 : ML hq67 m L := hL.th hFq (by rw [hG]; funext j; rw [mI_sI, if_neg (by omega)]) (by rw [hG]; funext j; rw [mI_sI, if_neg (by omega)]) (fun j z => by rw [hG, mI_sI, if_neg (by omega)])
            refine X.if_ne (tgt := 63) dX6_set_58 ⟨by omega, by omega⟩ (by decide) (pc' := 61) rfl (fun c58 => ?_) (fun c58 => ?_)
            · refine X.aload_n (i := 0) rfl rfl dX6_set_63 (pc' := 64) rfl ?_
              refine X.callV (ci := 6) (a := m) (rm := rm_X6_saves) (As := []) (st := []) dX6_set_64 ck_X6_64 rfl (by decide) hL2.1.1 rfl rfl ⟨Nat.le_of_ble_eq_true rfl, Nat.le_of_ble_eq_true rfl⟩ (Nat.le_of_ble_eq_true rfl) (Nat.le_of_ble_eq_true rfl) (Nat.le_of_ble_eq_true rfl) (pc' := 67) rfl (k_X6_saves hL2) (fun q69 hq69 eq69 => ?_) (fun _ _ x1 => x1.elim)
              obtain ⟨rfl, hL3, hG3⟩ := eq69
              have hM30 : mI hq69 m 3 = 0 := by rw [hG3.2.2.1 3 (by omega), hM3]; split <;> (try split) <;> (try split) <;> omega
              have mA3 : RM hq69 (m + 1) 0 (lA L) := hL3.2.1
              obtain ⟨nSt, nB, nW, nWl, nWo, nCo, nHe⟩ := id mA3
              refine X.aload_n (i := 0) rfl rfl dX6_set_67 (pc' := 68) rfl ?_
              refine X.getR fk_X6_8 xcl_6 dX6_set_68 hL3.1.1 hL3.1.2.1 (pc' := 71) rfl ?_
              refine X.iload_n (i := 1) rfl rfl dX6_set_71 (pc' := 72) rfl ?_
              refine X.iald (x := aSt (lA L) s) dX6_set_72 hL3.1.2.2.1 (by omega) (by omega) ⟨by omega, by omega⟩ (mI_at (nSt s (by omega) (by omega)) (by omega)) (pc' := 73) rfl (fun r70 => ?_)
              obtain ⟨r70a, r70b⟩ := r70
              refine X.gen (fun had hhad => ?_)
              refine X.istore (i := 4) (ls' := [some (rf m), some (vi s), some (vi k), some (vi r2), some (vi had)]) (hd := dX6_set_73) (by decide) rfl rfl (pc' := 75) rfl ?_
              refine X.aload_n (i := 0) rfl rfl dX6_set_75 (pc' := 76) rfl ?_
              refine X.getR fk_X6_8 xcl_6 dX6_set_76 hL3.1.1 hL3.1.2.1 (pc' := 79) rfl ?_
              refine X.iload_n (i := 1) rfl rfl dX6_set_79 (pc' := 80) rfl ?_
              refine X.iload_n (i := 2) rfl rfl dX6_set_80 (pc' := 81) rfl ?_
              refine X.iast dX6_set_81 hL3.1.2.2.1 (by omega) (by omega) ⟨by omega, by omega⟩ ⟨by omega, by omega⟩ (pc' := 82) rfl ?_
              refine X.genH (fun h71 hh71 => ?_)
              have wh71 : ∀ (w0 : Nat) (w1 : Int), mI h71 w0 w1 = if w0 = (m + 1) ∧ w1 = s then k else mI hq69 w0 w1 := fun _ _ => by rw [hh71]; rfl
              have S72 : MoS h71 m := by rw [hh71]; exact hL3.1
              refine X.iload (i := 4) rfl dX6_set_82 (pc' := 84) rfl ?_
              refine X.iret dX6_set_84 (Or.inl rfl) (Nat.le_of_ble_eq_true rfl) (Nat.le_of_ble_eq_true rfl) ?_
              subst hPR
              have hst : stOK s k := by unfold stOK; omega
              have hF5 : FS hq69 h71 m := by rw [hh71]; exact FS.w FS.rf (by omega)
              have hL5 := hL3.now hF5 (RM_st (s := s) (k := k) mA3 (by omega) (fun j => (wh71 (m + 1) j).trans (by
                by_cases e : j = s
                · rw [if_pos ⟨rfl, by omega⟩, if_pos e]
                · rw [if_neg (by omega), if_neg e]))) (aSSt_ok hA hst) hO.1.1
              exact ⟨(hFq.tr hG3.1).tr hF5.1, _, rfl, Or.inl ⟨⟨by omega, hst, trivial⟩, by rw [hF5.2.1 m (by omega)]; exact hM30, hhad, hL5⟩⟩
            · refine X.iconst dX6_set_61 (pc' := 62) rfl ?_
              refine X.iret dX6_set_62 (Or.inl rfl) (Nat.le_of_ble_eq_true rfl) (Nat.le_of_ble_eq_true rfl) ?_
              subst hPR
              refine ⟨hFq, _, rfl, Or.inr ⟨?_, rfl, hL2⟩⟩
              rw [hM3]
              unfold py3
              (try unfold stOK)
              split <;> (try split) <;> (try split) <;> omega
          · refine X.iconst dX6_set_49 (pc' := 50) rfl ?_
            refine X.goto (tgt := 54) dX6_set_50 (by decide) ?_
            refine X.iconst dX6_set_54 (pc' := 55) rfl ?_
            refine X.callV (ci := 6) (a := m) (rm := rm_X6_goes) (As := [vi r2, vi 1, vi 1]) (st := []) dX6_set_55 ck_X6_60 rfl (by decide) hL.1.1 rfl rfl ⟨Nat.le_of_ble_eq_true rfl, Nat.le_of_ble_eq_true rfl⟩ (Nat.le_of_ble_eq_true rfl) (Nat.le_of_ble_eq_true rfl) (Nat.le_of_ble_eq_true rfl) (pc' := 58) rfl (k_X6_goes hL.1 (by omega) (by omega) (by omega)) (fun q73 hq73 eq73 => ?_) (fun _ _ x1 => x1.elim)
            obtain ⟨hG, r74, rfl, hr74⟩ := eq73
            have hM3 : mI hq73 m 3 = (if (r2 : Int) = 0 then 1 else if (1 : Int) = 0 then 2 else if (1 : Int) = 0 then 3 else 0) := by rw [hG, mI_sI, if_pos ⟨rfl, rfl⟩]
            have hFq : FM h hq73 m := by rw [hG]; exact FM.rf.w ⟨by omega, by omega⟩
            have hL2 : ML hq73 m L := hL.th hFq (by rw [hG]; funext j; rw [mI_sI, if_neg (by omega)]) (by rw [hG]; funext j; rw [mI_sI, if_neg (by omega)]) (fun j z => by rw [hG, mI_sI, if_neg (by omega)])
            refine X.if_ne (tgt := 63) dX6_set_58 ⟨by omega, by omega⟩ (by decide) (pc' := 61) rfl (fun c58 => ?_) (fun c58 => ?_)
            · refine X.aload_n (i := 0) rfl rfl dX6_set_63 (pc' := 64) rfl ?_
              refine X.callV (ci := 6) (a := m) (rm := rm_X6_saves) (As := []) (st := []) dX6_set_64 ck_X6_64 rfl (by decide) hL2.1.1 rfl rfl ⟨Nat.le_of_ble_eq_true rfl, Nat.le_of_ble_eq_true rfl⟩ (Nat.le_of_ble_eq_true rfl) (Nat.le_of_ble_eq_true rfl) (Nat.le_of_ble_eq_true rfl) (pc' := 67) rfl (k_X6_saves hL2) (fun q75 hq75 eq75 => ?_) (fun _ _ x1 => x1.elim)
              obtain ⟨rfl, hL3, hG3⟩ := eq75
              have hM30 : mI hq75 m 3 = 0 := by rw [hG3.2.2.1 3 (by omega), hM3]; split <;> (try split) <;> (try split) <;> omega
              have mA3 : RM hq75 (m + 1) 0 (lA L) := hL3.2.1
              obtain ⟨nSt, nB, nW, nWl, nWo, nCo, nHe⟩ := id mA3
              refine X.aload_n (i := 0) rfl rfl dX6_set_67 (pc' := 68) rfl ?_
              refine X.getR fk_X6_8 xcl_6 dX6_set_68 hL3.1.1 hL3.1.2.1 (pc' := 71) rfl ?_
              refine X.iload_n (i := 1) rfl rfl dX6_set_71 (pc' := 72) rfl ?_
              refine X.iald (x := aSt (lA L) s) dX6_set_72 hL3.1.2.2.1 (by omega) (by omega) ⟨by omega, by omega⟩ (mI_at (nSt s (by omega) (by omega)) (by omega)) (pc' := 73) rfl (fun r76 => ?_)
              obtain ⟨r76a, r76b⟩ := r76
              refine X.gen (fun had hhad => ?_)
              refine X.istore (i := 4) (ls' := [some (rf m), some (vi s), some (vi k), some (vi r2), some (vi had)]) (hd := dX6_set_73) (by decide) rfl rfl (pc' := 75) rfl ?_
              refine X.aload_n (i := 0) rfl rfl dX6_set_75 (pc' := 76) rfl ?_
              refine X.getR fk_X6_8 xcl_6 dX6_set_76 hL3.1.1 hL3.1.2.1 (pc' := 79) rfl ?_
              refine X.iload_n (i := 1) rfl rfl dX6_set_79 (pc' := 80) rfl ?_
              refine X.iload_n (i := 2) rfl rfl dX6_set_80 (pc' := 81) rfl ?_
              refine X.iast dX6_set_81 hL3.1.2.2.1 (by omega) (by omega) ⟨by omega, by omega⟩ ⟨by omega, by omega⟩ (pc' := 82) rfl ?_
              refine X.genH (fun h77 hh77 => ?_)
              have wh77 : ∀ (w0 : Nat) (w1 : Int), mI h77 w0 w1 = if w0 = (m + 1) ∧ w1 = s then k else mI hq75 w0 w1 := fun _ _ => by rw [hh77]; rfl
              have S78 : MoS h77 m := by rw [hh77]; exact hL3.1
              refine X.iload (i := 4) rfl dX6_set_82 (pc' := 84) rfl ?_
              refine X.iret dX6_set_84 (Or.inl rfl) (Nat.le_of_ble_eq_true rfl) (Nat.le_of_ble_eq_true rfl) ?_
              subst hPR
              have hst : stOK s k := by unfold stOK; omega
              have hF5 : FS hq75 h77 m := by rw [hh77]; exact FS.w FS.rf (by omega)
              have hL5 := hL3.now hF5 (RM_st (s := s) (k := k) mA3 (by omega) (fun j => (wh77 (m + 1) j).trans (by
                by_cases e : j = s
                · rw [if_pos ⟨rfl, by omega⟩, if_pos e]
                · rw [if_neg (by omega), if_neg e]))) (aSSt_ok hA hst) hO.1.1
              exact ⟨(hFq.tr hG3.1).tr hF5.1, _, rfl, Or.inl ⟨⟨by omega, hst, trivial⟩, by rw [hF5.2.1 m (by omega)]; exact hM30, hhad, hL5⟩⟩
            · refine X.iconst dX6_set_61 (pc' := 62) rfl ?_
              refine X.iret dX6_set_62 (Or.inl rfl) (Nat.le_of_ble_eq_true rfl) (Nat.le_of_ble_eq_true rfl) ?_
              subst hPR
              refine ⟨hFq, _, rfl, Or.inr ⟨?_, rfl, hL2⟩⟩
              rw [hM3]
              unfold py3
              (try unfold stOK)
              split <;> (try split) <;> (try split) <;> omega
      · refine X.iconst dX6_set_28 (pc' := 29) rfl ?_
        refine X.goto (tgt := 43) dX6_set_29 (by decide) ?_
        refine X.callS (rm := rm_X6_in) (As := [vi k, vi 1, vi 5]) (st := [vi r2, rf m]) dX6_set_43 ck_X6_32 rfl rfl ⟨Nat.le_of_ble_eq_true rfl, Nat.le_of_ble_eq_true rfl⟩ (Nat.le_of_ble_eq_true rfl) (Nat.le_of_ble_eq_true rfl) (Nat.le_of_ble_eq_true rfl) (pc' := 46) rfl (k_X6_in ⟨by omega, by omega⟩ ⟨by omega, by omega⟩ ⟨by omega, by omega⟩) (fun q79 hq79 eq79 => ?_) (fun _ _ x1 => x1.elim)
        obtain ⟨rfl, r80, rfl, hr80⟩ := eq79
        refine X.if_eq (tgt := 53) dX6_set_46 ⟨by omega, by omega⟩ (by decide) (pc' := 49) rfl (fun c46 => ?_) (fun c46 => ?_)
        · refine X.iconst dX6_set_53 (pc' := 54) rfl ?_
          refine X.iconst dX6_set_54 (pc' := 55) rfl ?_
          refine X.callV (ci := 6) (a := m) (rm := rm_X6_goes) (As := [vi r2, vi 0, vi 1]) (st := []) dX6_set_55 ck_X6_60 rfl (by decide) hL.1.1 rfl rfl ⟨Nat.le_of_ble_eq_true rfl, Nat.le_of_ble_eq_true rfl⟩ (Nat.le_of_ble_eq_true rfl) (Nat.le_of_ble_eq_true rfl) (Nat.le_of_ble_eq_true rfl) (pc' := 58) rfl (k_X6_goes hL.1 (by omega) (by omega) (by omega)) (fun q81 hq81 eq81 => ?_) (fun _ _ x1 => x1.elim)
          obtain ⟨hG, r82, rfl, hr82⟩ := eq81
          have hM3 : mI hq81 m 3 = (if (r2 : Int) = 0 then 1 else if (0 : Int) = 0 then 2 else if (1 : Int) = 0 then 3 else 0) := by rw [hG, mI_sI, if_pos ⟨rfl, rfl⟩]
          have hFq : FM h hq81 m := by rw [hG]; exact FM.rf.w ⟨by omega, by omega⟩
          have hL2 : ML hq81 m L := hL.th hFq (by rw [hG]; funext j; rw [mI_sI, if_neg (by omega)]) (by rw [hG]; funext j; rw [mI_sI, if_neg (by omega)]) (fun j z => by rw [hG, mI_sI, if_neg (by omega)])
          refine X.if_ne (tgt := 63) dX6_set_58 ⟨by omega, by omega⟩ (by decide) (pc' := 61) rfl (fun c58 => ?_) (fun c58 => ?_)
          · refine X.aload_n (i := 0) rfl rfl dX6_set_63 (pc' := 64) rfl ?_
            refine X.callV (ci := 6) (a := m) (rm := rm_X6_saves) (As := []) (st := []) dX6_set_64 ck_X6_64 rfl (by decide) hL2.1.1 rfl rfl ⟨Nat.le_of_ble_eq_true rfl, Nat.le_of_ble_eq_true rfl⟩ (Nat.le_of_ble_eq_true rfl) (Nat.le_of_ble_eq_true rfl) (Nat.le_of_ble_eq_true rfl) (pc' := 67) rfl (k_X6_saves hL2) (fun q83 hq83 eq83 => ?_) (fun _ _ x1 => x1.elim)
            obtain ⟨rfl, hL3, hG3⟩ := eq83
            have hM30 : mI hq83 m 3 = 0 := by rw [hG3.2.2.1 3 (by omega), hM3]; split <;> (try split) <;> (try split) <;> omega
            have mA3 : RM hq83 (m + 1) 0 (lA L) := hL3.2.1
            obtain ⟨nSt, nB, nW, nWl, nWo, nCo, nHe⟩ := id mA3
            refine X.aload_n (i := 0) rfl rfl dX6_set_67 (pc' := 68) rfl ?_
            refine X.getR fk_X6_8 xcl_6 dX6_set_68 hL3.1.1 hL3.1.2.1 (pc' := 71) rfl ?_
            refine X.iload_n (i := 1) rfl rfl dX6_set_71 (pc' := 72) rfl ?_
            refine X.iald (x := aSt (lA L) s) dX6_set_72 hL3.1.2.2.1 (by omega) (by omega) ⟨by omega, by omega⟩ (mI_at (nSt s (by omega) (by omega)) (by omega)) (pc' := 73) rfl (fun r84 => ?_)
            obtain ⟨r84a, r84b⟩ := r84
            refine X.gen (fun had hhad => ?_)
            refine X.istore (i := 4) (ls' := [some (rf m), some (vi s), some (vi k), some (vi r2), some (vi had)]) (hd := dX6_set_73) (by decide) rfl rfl (pc' := 75) rfl ?_
            refine X.aload_n (i := 0) rfl rfl dX6_set_75 (pc' := 76) rfl ?_
            refine X.getR fk_X6_8 xcl_6 dX6_set_76 hL3.1.1 hL3.1.2.1 (pc' := 79) rfl ?_
            refine X.iload_n (i := 1) rfl rfl dX6_set_79 (pc' := 80) rfl ?_
            refine X.iload_n (i := 2) rfl rfl dX6_set_80 (pc' := 81) rfl ?_
            refine X.iast dX6_set_81 hL3.1.2.2.1 (by omega) (by omega) ⟨by omega, by omega⟩ ⟨by omega, by omega⟩ (pc' := 82) rfl ?_
            refine X.genH (fun h85 hh85 => ?_)
            have wh85 : ∀ (w0 : Nat) (w1 : Int), mI h85 w0 w1 = if w0 = (m + 1) ∧ w1 = s then k else mI hq83 w0 w1 := fun _ _ => by rw [hh85]; rfl
            have S86 : MoS h85 m := by rw [hh85]; exact hL3.1
            refine X.iload (i := 4) rfl dX6_set_82 (pc' := 84) rfl ?_
            refine X.iret dX6_set_84 (Or.inl rfl) (Nat.le_of_ble_eq_true rfl) (Nat.le_of_ble_eq_true rfl) ?_
            subst hPR
            have hst : stOK s k := by unfold stOK; omega
            have hF5 : FS hq83 h85 m := by rw [hh85]; exact FS.w FS.rf (by omega)
            have hL5 := hL3.now hF5 (RM_st (s := s) (k := k) mA3 (by omega) (fun j => (wh85 (m + 1) j).trans (by
              by_cases e : j = s
              · rw [if_pos ⟨rfl, by omega⟩, if_pos e]
              · rw [if_neg (by omega), if_neg e]))) (aSSt_ok hA hst) hO.1.1
            exact ⟨(hFq.tr hG3.1).tr hF5.1, _, rfl, Or.inl ⟨⟨by omega, hst, trivial⟩, by rw [hF5.2.1 m (by omega)]; exact hM30, hhad, hL5⟩⟩
          · refine X.iconst dX6_set_61 (pc' := 62) rfl ?_
            refine X.iret dX6_set_62 (Or.inl rfl) (Nat.le_of_ble_eq_true rfl) (Nat.le_of_ble_eq_true rfl) ?_
            subst hPR
            refine ⟨hFq, _, rfl, Or.inr ⟨?_, rfl, hL2⟩⟩
            rw [hM3]
            unfold py3
            (try unfold stOK)
            split <;> (try split) <;> (try split) <;> omega
        · refine X.iconst dX6_set_49 (pc' := 50) rfl ?_
          refine X.goto (tgt := 54) dX6_set_50 (by decide) ?_
          refine X.iconst dX6_set_54 (pc' := 55) rfl ?_
          refine X.callV (ci := 6) (a := m) (rm := rm_X6_goes) (As := [vi r2, vi 1, vi 1]) (st := []) dX6_set_55 ck_X6_60 rfl (by decide) hL.1.1 rfl rfl ⟨Nat.le_of_ble_eq_true rfl, Nat.le_of_ble_eq_true rfl⟩ (Nat.le_of_ble_eq_true rfl) (Nat.le_of_ble_eq_true rfl) (Nat.le_of_ble_eq_true rfl) (pc' := 58) rfl (k_X6_goes hL.1 (by omega) (by omega) (by omega)) (fun q87 hq87 eq87 => ?_) (fun _ _ x1 => x1.elim)
          obtain ⟨hG, r88, rfl, hr88⟩ := eq87
          have hM3 : mI hq87 m 3 = (if (r2 : Int) = 0 then 1 else if (1 : Int) = 0 then 2 else if (1 : Int) = 0 then 3 else 0) := by rw [hG, mI_sI, if_pos ⟨rfl, rfl⟩]
          have hFq : FM h hq87 m := by rw [hG]; exact FM.rf.w ⟨by omega, by omega⟩
          have hL2 : ML hq87 m L := hL.th hFq (by rw [hG]; funext j; rw [mI_sI, if_neg (by omega)]) (by rw [hG]; funext j; rw [mI_sI, if_neg (by omega)]) (fun j z => by rw [hG, mI_sI, if_neg (by omega)])
          refine X.if_ne (tgt := 63) dX6_set_58 ⟨by omega, by omega⟩ (by decide) (pc' := 61) rfl (fun c58 => ?_) (fun c58 => ?_)
          · refine X.aload_n (i := 0) rfl rfl dX6_set_63 (pc' := 64) rfl ?_
            refine X.callV (ci := 6) (a := m) (rm := rm_X6_saves) (As := []) (st := []) dX6_set_64 ck_X6_64 rfl (by decide) hL2.1.1 rfl rfl ⟨Nat.le_of_ble_eq_true rfl, Nat.le_of_ble_eq_true rfl⟩ (Nat.le_of_ble_eq_true rfl) (Nat.le_of_ble_eq_true rfl) (Nat.le_of_ble_eq_true rfl) (pc' := 67) rfl (k_X6_saves hL2) (fun q89 hq89 eq89 => ?_) (fun _ _ x1 => x1.elim)
            obtain ⟨rfl, hL3, hG3⟩ := eq89
            have hM30 : mI hq89 m 3 = 0 := by rw [hG3.2.2.1 3 (by omega), hM3]; split <;> (try split) <;> (try split) <;> omega
            have mA3 : RM hq89 (m + 1) 0 (lA L) := hL3.2.1
            obtain ⟨nSt, nB, nW, nWl, nWo, nCo, nHe⟩ := id mA3
            refine X.aload_n (i := 0) rfl rfl dX6_set_67 (pc' := 68) rfl ?_
            refine X.getR fk_X6_8 xcl_6 dX6_set_68 hL3.1.1 hL3.1.2.1 (pc' := 71) rfl ?_
            refine X.iload_n (i := 1) rfl rfl dX6_set_71 (pc' := 72) rfl ?_
            refine X.iald (x := aSt (lA L) s) dX6_set_72 hL3.1.2.2.1 (by omega) (by omega) ⟨by omega, by omega⟩ (mI_at (nSt s (by omega) (by omega)) (by omega)) (pc' := 73) rfl (fun r90 => ?_)
            obtain ⟨r90a, r90b⟩ := r90
            refine X.gen (fun had hhad => ?_)
            refine X.istore (i := 4) (ls' := [some (rf m), some (vi s), some (vi k), some (vi r2), some (vi had)]) (hd := dX6_set_73) (by decide) rfl rfl (pc' := 75) rfl ?_
            refine X.aload_n (i := 0) rfl rfl dX6_set_75 (pc' := 76) rfl ?_
            refine X.getR fk_X6_8 xcl_6 dX6_set_76 hL3.1.1 hL3.1.2.1 (pc' := 79) rfl ?_
            refine X.iload_n (i := 1) rfl rfl dX6_set_79 (pc' := 80) rfl ?_
            refine X.iload_n (i := 2) rfl rfl dX6_set_80 (pc' := 81) rfl ?_
            refine X.iast dX6_set_81 hL3.1.2.2.1 (by omega) (by omega) ⟨by omega, by omega⟩ ⟨by omega, by omega⟩ (pc' := 82) rfl ?_
            refine X.genH (fun h91 hh91 => ?_)
            have wh91 : ∀ (w0 : Nat) (w1 : Int), mI h91 w0 w1 = if w0 = (m + 1) ∧ w1 = s then k else mI hq89 w0 w1 := fun _ _ => by rw [hh91]; rfl
            have S92 : MoS h91 m := by rw [hh91]; exact hL3.1
            refine X.iload (i := 4) rfl dX6_set_82 (pc' := 84) rfl ?_
            refine X.iret dX6_set_84 (Or.inl rfl) (Nat.le_of_ble_eq_true rfl) (Nat.le_of_ble_eq_true rfl) ?_
            subst hPR
            have hst : stOK s k := by unfold stOK; omega
            have hF5 : FS hq89 h91 m := by rw [hh91]; exact FS.w FS.rf (by omega)
            have hL5 := hL3.now hF5 (RM_st (s := s) (k := k) mA3 (by omega) (fun j => (wh91 (m + 1) j).trans (by
              by_cases e : j = s
              · rw [if_pos ⟨rfl, by omega⟩, if_pos e]
              · rw [if_neg (by omega), if_neg e]))) (aSSt_ok hA hst) hO.1.1
            exact ⟨(hFq.tr hG3.1).tr hF5.1, _, rfl, Or.inl ⟨⟨by omega, hst, trivial⟩, by rw [hF5.2.1 m (by omega)]; exact hM30, hhad, hL5⟩⟩
          · refine X.iconst dX6_set_61 (pc' := 62) rfl ?_
            refine X.iret dX6_set_62 (Or.inl rfl) (Nat.le_of_ble_eq_true rfl) (Nat.le_of_ble_eq_true rfl) ?_
            subst hPR
            refine ⟨hFq, _, rfl, Or.inr ⟨?_, rfl, hL2⟩⟩
            rw [hM3]
            unfold py3
            (try unfold stOK)
            split <;> (try split) <;> (try split) <;> omega
set_option maxHeartbeats 4000000 in
set_option maxRecDepth 100000 in
theorem k_X6_append {Ω : xO} {h : xM} {m : Nat} {L : lS} {c : Int} (hL : ML h m L) (irc : inR c) : xCt Ω yX6_append cX6_append 2 (some .int) rm_X6_append [rf m, vi c] h (fun q h' => FM h h' m ∧ ∃ v, q = some (vi v) ∧ ((((33 ≤ c ∧ c ≤ 126) ∧ (lTn L < 60) ∧ (True)) ∧ mI h' m 3 = 0 ∧ v = lTn L + 1 ∧ ML h' m (sTx L (lTn L + 1) (up1 (lTg L) (lTn L) c))) ∨ (py3 (33 ≤ c ∧ c ≤ 126) (lTn L < 60) (True) (mI h' m 3) ∧ v = 0 ∧ ML h' m L))) xNo := by
  refine xCt_of (ini := false) (by decide +kernel) (Nat.le_of_ble_eq_true rfl) (fun q => absurd q (by decide)) ?_
  generalize hPR : (fun q h' => FM h h' m ∧ ∃ v, q = some (vi v) ∧ ((((33 ≤ c ∧ c ≤ 126) ∧ (lTn L < 60) ∧ (True)) ∧ mI h' m 3 = 0 ∧ v = lTn L + 1 ∧ ML h' m (sTx L (lTn L + 1) (up1 (lTg L) (lTn L) c))) ∨ (py3 (33 ≤ c ∧ c ≤ 126) (lTn L < 60) (True) (mI h' m 3) ∧ v = 0 ∧ ML h' m L)) : Option xV → xM → Prop) = PR
  have K0 : X Ω RX6 cX6_append 2 (some .int) false rm_X6_append PR xNo 0 0 0 [some (rf m), some (vi c)] [] h := ?_
  exact K0
  have hz := hL.2.2.1
  have hO := hL.2.2.2.2.2.2.2.2
  have hz6 := hO.2.2.1
  have hA : aOK (lA L) := hO.2.1.1
  have hM := hL.2.1
  obtain ⟨mSt, mB, mW, mWl, mWo, mCo, mHe⟩ := id hM
  obtain ⟨okB, okN, okWl, okS, okW, okM, okC, okH⟩ := id hA
  have hTn := hL.2.2.2.2.2.2.1
  have hTr := hO.2.2.2.2.1
  have hKf := hL.2.2.2.2.1
  have hKb := hO.2.2.2.1
  obtain ⟨irc1, irc2⟩ := irc
  refine X.aload_n (i := 0) rfl rfl dX6_append_0 (pc' := 1) rfl ?_
  refine X.iload_n (i := 1) rfl rfl dX6_append_1 (pc' := 2) rfl ?_
  refine X.bipush (by decide +kernel) dX6_append_2 (pc' := 4) rfl ?_
  refine X.bipush (by decide +kernel) dX6_append_4 (pc' := 6) rfl ?_
  refine X.callS (rm := rm_X6_in) (As := [vi c, vi 33, vi 126]) (st := [rf m]) dX6_append_6 ck_X6_32 rfl rfl ⟨Nat.le_of_ble_eq_true rfl, Nat.le_of_ble_eq_true rfl⟩ (Nat.le_of_ble_eq_true rfl) (Nat.le_of_ble_eq_true rfl) (Nat.le_of_ble_eq_true rfl) (pc' := 9) rfl (k_X6_in ⟨by omega, by omega⟩ ⟨by omega, by omega⟩ ⟨by omega, by omega⟩) (fun q1 hq1 eq1 => ?_) (fun _ _ x1 => x1.elim)
  obtain ⟨rfl, r2, rfl, hr2⟩ := eq1
  refine X.aload_n (i := 0) rfl rfl dX6_append_9 (pc' := 10) rfl ?_
  refine X.getI (x := mI h m 5) fk_X6_75 xcl_6 dX6_append_10 (by decide) hL.1.1 rfl (pc' := 13) rfl (fun r3 => ?_)
  obtain ⟨r3a, r3b⟩ := r3
  refine X.bipush (by decide +kernel) dX6_append_13 (pc' := 15) rfl ?_
  refine X.icmp_ge (tgt := 22) dX6_append_15 ⟨by omega, by omega⟩ ⟨by omega, by omega⟩ (by decide) (pc' := 18) rfl (fun c15 => ?_) (fun c15 => ?_)
  · refine X.iconst dX6_append_22 (pc' := 23) rfl ?_
    refine X.iconst dX6_append_23 (pc' := 24) rfl ?_
    refine X.callV (ci := 6) (a := m) (rm := rm_X6_goes) (As := [vi r2, vi 0, vi 1]) (st := []) dX6_append_24 ck_X6_60 rfl (by decide) hL.1.1 rfl rfl ⟨Nat.le_of_ble_eq_true rfl, Nat.le_of_ble_eq_true rfl⟩ (Nat.le_of_ble_eq_true rfl) (Nat.le_of_ble_eq_true rfl) (Nat.le_of_ble_eq_true rfl) (pc' := 27) rfl (k_X6_goes hL.1 (by omega) (by omega) (by omega)) (fun q4 hq4 eq4 => ?_) (fun _ _ x1 => x1.elim)
    obtain ⟨hG, r5, rfl, hr5⟩ := eq4
    have hM3 : mI hq4 m 3 = (if (r2 : Int) = 0 then 1 else if (0 : Int) = 0 then 2 else if (1 : Int) = 0 then 3 else 0) := by rw [hG, mI_sI, if_pos ⟨rfl, rfl⟩]
    have hFq : FM h hq4 m := by rw [hG]; exact FM.rf.w ⟨by omega, by omega⟩
    have hL2 : ML hq4 m L := hL.th hFq (by rw [hG]; funext j; rw [mI_sI, if_neg (by omega)]) (by rw [hG]; funext j; rw [mI_sI, if_neg (by omega)]) (fun j z => by rw [hG, mI_sI, if_neg (by omega)])
    refine X.if_ne (tgt := 32) dX6_append_27 ⟨by omega, by omega⟩ (by decide) (pc' := 30) rfl (fun c27 => ?_) (fun c27 => ?_)
    · refine X.aload_n (i := 0) rfl rfl dX6_append_32 (pc' := 33) rfl ?_
      have hT2 : mI hq4 m 5 = lTn L := hL2.2.2.2.2.2.2.1
      refine X.getR fk_X6_14 xcl_6 dX6_append_33 hL2.1.1 hL2.1.2.2.2.1 (pc' := 36) rfl ?_
      refine X.aload_n (i := 0) rfl rfl dX6_append_36 (pc' := 37) rfl ?_
      refine X.getI (x := mI hq4 m 5) fk_X6_75 xcl_6 dX6_append_37 (by decide) hL2.1.1 rfl (pc' := 40) rfl (fun r6 => ?_)
      obtain ⟨r6a, r6b⟩ := r6
      refine X.iload_n (i := 1) rfl rfl dX6_append_40 (pc' := 41) rfl ?_
      refine X.i2c (by omega) (by omega) dX6_append_41 (pc' := 42) rfl ?_
      refine X.cast dX6_append_42 hL2.1.2.2.2.2.1 (by omega) (by omega) ⟨by omega, by omega⟩ (by omega) (by omega) (pc' := 43) rfl ?_
      refine X.genH (fun h7 hh7 => ?_)
      have wh7 : ∀ (w0 : Nat) (w1 : Int), mI h7 w0 w1 = if w0 = (m + 2) ∧ w1 = mI hq4 m 5 then c else mI hq4 w0 w1 := fun _ _ => by rw [hh7]; rfl
      have S8 : MoS h7 m := by rw [hh7]; exact hL2.1
      refine X.aload_n (i := 0) rfl rfl dX6_append_43 (pc' := 44) rfl ?_
      refine X.dup rfl dX6_append_44 (pc' := 45) rfl ?_
      refine X.getI (x := mI h7 m 5) fk_X6_75 xcl_6 dX6_append_45 (by decide) S8.1 rfl (pc' := 48) rfl (fun r9 => ?_)
      obtain ⟨r9a, r9b⟩ := r9
      refine X.iconst dX6_append_48 (pc' := 49) rfl ?_
      refine X.iadd dX6_append_49 (pc' := 50) rfl ?_
      have hT3 : mI h7 m 5 = lTn L := by rw [wh7, if_neg (by omega)]; exact hT2
      refine X.putI fk_X6_75 xcl_6 ⟨_, rfl, Or.inl rfl⟩ dX6_append_50 (Or.inl rfl) ⟨by omega, by omega⟩ S8.1 (pc' := 53) rfl ?_
      refine X.genH (fun h10 hh10 => ?_)
      have wh10 : ∀ (w0 : Nat) (w1 : Int), mI h10 w0 w1 = if w0 = m ∧ w1 = 5 then (mI h7 m 5) + 1 else mI h7 w0 w1 := fun _ _ => by rw [hh10]; rfl
      have S11 : MoS h10 m := by rw [hh10]; exact S8
      refine X.aload_n (i := 0) rfl rfl dX6_append_53 (pc' := 54) rfl ?_
      refine X.getI (x := mI h10 m 5) fk_X6_75 xcl_6 dX6_append_54 (by decide) S11.1 rfl (pc' := 57) rfl (fun r12 => ?_)
      obtain ⟨r12a, r12b⟩ := r12
      refine X.iret dX6_append_57 (Or.inl rfl) (Nat.le_of_ble_eq_true rfl) (Nat.le_of_ble_eq_true rfl) ?_
      subst hPR
      have hFa : FM h h10 m := by rw [hh10, hh7]; exact FM.w (FM.w hFq ⟨by omega, by omega⟩) ⟨by omega, by omega⟩
      have hT5 : mI h10 m 5 = lTn L + 1 := by rw [wh10, if_pos ⟨rfl, rfl⟩, hT3]
      have hF6 : FM hq4 h10 m := by rw [hh10, hh7]; exact FM.w (FM.w FM.rf ⟨by omega, by omega⟩) ⟨by omega, by omega⟩
      have hL5 := hL2.text (n := lTn L + 1) (G := up1 (lTg L) (lTn L) c) hF6 (funext fun j => by rw [wh10, if_neg (by omega), wh7, if_neg (by omega)]) (fun j z => by rw [wh10, if_neg (by omega), wh7, if_neg (by omega)]) hT5 (by omega) (fun j z1 z2 => by
        rw [wh10, if_neg (by omega), wh7]
        show _ = (if j = lTn L then c else lTg L j) ∧ 33 ≤ (if j = lTn L then c else lTg L j) ∧ (if j = lTn L then c else lTg L j) ≤ 126
        by_cases e : j = lTn L
        · rw [if_pos e, if_pos ⟨rfl, by omega⟩]; exact ⟨rfl, by omega⟩
        · rw [if_neg e, if_neg (fun z => e (by omega))]; exact ⟨hL2.2.2.2.2.2.2.2.1 j z1 (by omega), hO.2.2.2.2.2 j z1 (by omega)⟩)
      exact ⟨hFa, _, rfl, Or.inl ⟨⟨by omega, by omega, trivial⟩, by rw [wh10, if_neg (by omega), wh7, if_neg (by omega), hM3]; split <;> (try split) <;> (try split) <;> omega, hT5, hL5⟩⟩
    · refine X.iconst dX6_append_30 (pc' := 31) rfl ?_
      refine X.iret dX6_append_31 (Or.inl rfl) (Nat.le_of_ble_eq_true rfl) (Nat.le_of_ble_eq_true rfl) ?_
      subst hPR
      refine ⟨hFq, _, rfl, Or.inr ⟨?_, rfl, hL2⟩⟩
      rw [hM3]
      unfold py3
      (try unfold stOK)
      split <;> (try split) <;> (try split) <;> omega
  · refine X.iconst dX6_append_18 (pc' := 19) rfl ?_
    refine X.goto (tgt := 23) dX6_append_19 (by decide) ?_
    refine X.iconst dX6_append_23 (pc' := 24) rfl ?_
    refine X.callV (ci := 6) (a := m) (rm := rm_X6_goes) (As := [vi r2, vi 1, vi 1]) (st := []) dX6_append_24 ck_X6_60 rfl (by decide) hL.1.1 rfl rfl ⟨Nat.le_of_ble_eq_true rfl, Nat.le_of_ble_eq_true rfl⟩ (Nat.le_of_ble_eq_true rfl) (Nat.le_of_ble_eq_true rfl) (Nat.le_of_ble_eq_true rfl) (pc' := 27) rfl (k_X6_goes hL.1 (by omega) (by omega) (by omega)) (fun q13 hq13 eq13 => ?_) (fun _ _ x1 => x1.elim)
    obtain ⟨hG, r14, rfl, hr14⟩ := eq13
    have hM3 : mI hq13 m 3 = (if (r2 : Int) = 0 then 1 else if (1 : Int) = 0 then 2 else if (1 : Int) = 0 then 3 else 0) := by rw [hG, mI_sI, if_pos ⟨rfl, rfl⟩]
    have hFq : FM h hq13 m := by rw [hG]; exact FM.rf.w ⟨by omega, by omega⟩
    have hL2 : ML hq13 m L := hL.th hFq (by rw [hG]; funext j; rw [mI_sI, if_neg (by omega)]) (by rw [hG]; funext j; rw [mI_sI, if_neg (by omega)]) (fun j z => by rw [hG, mI_sI, if_neg (by omega)])
    refine X.if_ne (tgt := 32) dX6_append_27 ⟨by omega, by omega⟩ (by decide) (pc' := 30) rfl (fun c27 => ?_) (fun c27 => ?_)
    · refine X.aload_n (i := 0) rfl rfl dX6_append_32 (pc' := 33) rfl ?_
      have hT2 : mI hq13 m 5 = lTn L := hL2.2.2.2.2.2.2.1
      refine X.getR fk_X6_14 xcl_6 dX6_append_33 hL2.1.1 hL2.1.2.2.2.1 (pc' := 36) rfl ?_
      refine X.aload_n (i := 0) rfl rfl dX6_append_36 (pc' := 37) rfl ?_
      refine X.getI (x := mI hq13 m 5) fk_X6_75 xcl_6 dX6_append_37 (by decide) hL2.1.1 rfl (pc' := 40) rfl (fun r15 => ?_)
      obtain ⟨r15a, r15b⟩ := r15
      refine X.iload_n (i := 1) rfl rfl dX6_append_40 (pc' := 41) rfl ?_
      refine X.i2c (by omega) (by omega) dX6_append_41 (pc' := 42) rfl ?_
      refine X.cast dX6_append_42 hL2.1.2.2.2.2.1 (by omega) (by omega) ⟨by omega, by omega⟩ (by omega) (by omega) (pc' := 43) rfl ?_
      refine X.genH (fun h16 hh16 => ?_)
      have wh16 : ∀ (w0 : Nat) (w1 : Int), mI h16 w0 w1 = if w0 = (m + 2) ∧ w1 = mI hq13 m 5 then c else mI hq13 w0 w1 := fun _ _ => by rw [hh16]; rfl
      have S17 : MoS h16 m := by rw [hh16]; exact hL2.1
      refine X.aload_n (i := 0) rfl rfl dX6_append_43 (pc' := 44) rfl ?_
      refine X.dup rfl dX6_append_44 (pc' := 45) rfl ?_
      refine X.getI (x := mI h16 m 5) fk_X6_75 xcl_6 dX6_append_45 (by decide) S17.1 rfl (pc' := 48) rfl (fun r18 => ?_)
      obtain ⟨r18a, r18b⟩ := r18
      refine X.iconst dX6_append_48 (pc' := 49) rfl ?_
      refine X.iadd dX6_append_49 (pc' := 50) rfl ?_
      have hT3 : mI h16 m 5 = lTn L := by rw [wh16, if_neg (by omega)]; exact hT2
      refine X.putI fk_X6_75 xcl_6 ⟨_, rfl, Or.inl rfl⟩ dX6_append_50 (Or.inl rfl) ⟨by omega, by omega⟩ S17.1 (pc' := 53) rfl ?_
      refine X.genH (fun h19 hh19 => ?_)
      have wh19 : ∀ (w0 : Nat) (w1 : Int), mI h19 w0 w1 = if w0 = m ∧ w1 = 5 then (mI h16 m 5) + 1 else mI h16 w0 w1 := fun _ _ => by rw [hh19]; rfl
      have S20 : MoS h19 m := by rw [hh19]; exact S17
      refine X.aload_n (i := 0) rfl rfl dX6_append_53 (pc' := 54) rfl ?_
      refine X.getI (x := mI h19 m 5) fk_X6_75 xcl_6 dX6_append_54 (by decide) S20.1 rfl (pc' := 57) rfl (fun r21 => ?_)
      obtain ⟨r21a, r21b⟩ := r21
      refine X.iret dX6_append_57 (Or.inl rfl) (Nat.le_of_ble_eq_true rfl) (Nat.le_of_ble_eq_true rfl) ?_
      subst hPR
      have hFa : FM h h19 m := by rw [hh19, hh16]; exact FM.w (FM.w hFq ⟨by omega, by omega⟩) ⟨by omega, by omega⟩
      have hT5 : mI h19 m 5 = lTn L + 1 := by rw [wh19, if_pos ⟨rfl, rfl⟩, hT3]
      have hF6 : FM hq13 h19 m := by rw [hh19, hh16]; exact FM.w (FM.w FM.rf ⟨by omega, by omega⟩) ⟨by omega, by omega⟩
      have hL5 := hL2.text (n := lTn L + 1) (G := up1 (lTg L) (lTn L) c) hF6 (funext fun j => by rw [wh19, if_neg (by omega), wh16, if_neg (by omega)]) (fun j z => by rw [wh19, if_neg (by omega), wh16, if_neg (by omega)]) hT5 (by omega) (fun j z1 z2 => by
        rw [wh19, if_neg (by omega), wh16]
        show _ = (if j = lTn L then c else lTg L j) ∧ 33 ≤ (if j = lTn L then c else lTg L j) ∧ (if j = lTn L then c else lTg L j) ≤ 126
        by_cases e : j = lTn L
        · rw [if_pos e, if_pos ⟨rfl, by omega⟩]; exact ⟨rfl, by omega⟩
        · rw [if_neg e, if_neg (fun z => e (by omega))]; exact ⟨hL2.2.2.2.2.2.2.2.1 j z1 (by omega), hO.2.2.2.2.2 j z1 (by omega)⟩)
      exact ⟨hFa, _, rfl, Or.inl ⟨⟨by omega, by omega, trivial⟩, by rw [wh19, if_neg (by omega), wh16, if_neg (by omega), hM3]; split <;> (try split) <;> (try split) <;> omega, hT5, hL5⟩⟩
    · refine X.iconst dX6_append_30 (pc' := 31) rfl ?_
      refine X.iret dX6_append_31 (Or.inl rfl) (Nat.le_of_ble_eq_true rfl) (Nat.le_of_ble_eq_true rfl) ?_
      subst hPR
      refine ⟨hFq, _, rfl, Or.inr ⟨?_, rfl, hL2⟩⟩
      rw [hM3]
      unfold py3
      (try unfold stOK)
      split <;> (try split) <;> (try split) <;> omega
set_option maxHeartbeats 4000000 in
set_option maxRecDepth 100000 in
theorem k_X6_clearBuffer {Ω : xO} {h : xM} {m : Nat} {L : lS} (hL : ML h m L) : xCt Ω yX6_clearBuffer cX6_clearBuffer 2 (some .int) rm_X6_clearBuffer [rf m] h (fun q h' => FM h h' m ∧ q = some (vi (lTn L)) ∧ mI h' m 3 = 0 ∧ ML h' m (sTx L 0 (lTg L))) xNo := by
  refine xCt_of (ini := false) (by decide +kernel) (Nat.le_of_ble_eq_true rfl) (fun q => absurd q (by decide)) ?_
  generalize hPR : (fun q h' => FM h h' m ∧ q = some (vi (lTn L)) ∧ mI h' m 3 = 0 ∧ ML h' m (sTx L 0 (lTg L)) : Option xV → xM → Prop) = PR
  have K0 : X Ω RX6 cX6_clearBuffer 2 (some .int) false rm_X6_clearBuffer PR xNo 0 0 0 [some (rf m), none] [] h := ?_
  exact K0
  have hz := hL.2.2.1
  have hO := hL.2.2.2.2.2.2.2.2
  have hz6 := hO.2.2.1
  have hA : aOK (lA L) := hO.2.1.1
  have hM := hL.2.1
  obtain ⟨mSt, mB, mW, mWl, mWo, mCo, mHe⟩ := id hM
  obtain ⟨okB, okN, okWl, okS, okW, okM, okC, okH⟩ := id hA
  have hTn := hL.2.2.2.2.2.2.1
  have hTr := hO.2.2.2.2.1
  have hKf := hL.2.2.2.2.1
  have hKb := hO.2.2.2.1
  refine X.aload_n (i := 0) rfl rfl dX6_clearBuffer_0 (pc' := 1) rfl ?_
  refine X.iconst dX6_clearBuffer_1 (pc' := 2) rfl ?_
  refine X.putI fk_X6_21 xcl_6 ⟨_, rfl, Or.inl rfl⟩ dX6_clearBuffer_2 (Or.inl rfl) ⟨by omega, by omega⟩ hL.1.1 (pc' := 5) rfl ?_
  refine X.genH (fun h1 hh1 => ?_)
  have wh1 : ∀ (w0 : Nat) (w1 : Int), mI h1 w0 w1 = if w0 = m ∧ w1 = 3 then 0 else mI h w0 w1 := fun _ _ => by rw [hh1]; rfl
  have S2 : MoS h1 m := by rw [hh1]; exact hL.1
  refine X.aload_n (i := 0) rfl rfl dX6_clearBuffer_5 (pc' := 6) rfl ?_
  refine X.getI (x := mI h1 m 5) fk_X6_75 xcl_6 dX6_clearBuffer_6 (by decide) S2.1 rfl (pc' := 9) rfl (fun r3 => ?_)
  obtain ⟨r3a, r3b⟩ := r3
  refine X.gen (fun had hhad => ?_)
  refine X.istore_n (i := 1) (ls' := [some (rf m), some (vi had)]) (hi := rfl) (hd := dX6_clearBuffer_9) (by decide) rfl rfl (pc' := 10) rfl ?_
  refine X.aload_n (i := 0) rfl rfl dX6_clearBuffer_10 (pc' := 11) rfl ?_
  refine X.iconst dX6_clearBuffer_11 (pc' := 12) rfl ?_
  refine X.putI fk_X6_75 xcl_6 ⟨_, rfl, Or.inl rfl⟩ dX6_clearBuffer_12 (Or.inl rfl) ⟨by omega, by omega⟩ S2.1 (pc' := 15) rfl ?_
  refine X.genH (fun h4 hh4 => ?_)
  have wh4 : ∀ (w0 : Nat) (w1 : Int), mI h4 w0 w1 = if w0 = m ∧ w1 = 5 then 0 else mI h1 w0 w1 := fun _ _ => by rw [hh4]; rfl
  have S5 : MoS h4 m := by rw [hh4]; exact S2
  refine X.iload_n (i := 1) rfl rfl dX6_clearBuffer_15 (pc' := 16) rfl ?_
  refine X.iret dX6_clearBuffer_16 (Or.inl rfl) (Nat.le_of_ble_eq_true rfl) (Nat.le_of_ble_eq_true rfl) ?_
  subst hPR
  have hhad2 : had = lTn L := by rw [hhad, wh1, if_neg (by omega)]; exact hTn
  have hF6 : FM h h4 m := by rw [hh4, hh1]; exact FM.w (FM.w FM.rf ⟨by omega, by omega⟩) ⟨by omega, by omega⟩
  exact ⟨hF6, by rw [hhad2], by rw [wh4, if_neg (by omega), wh1, if_pos ⟨rfl, rfl⟩], hL.text hF6 (funext fun j => by rw [wh4, if_neg (by omega), wh1, if_neg (by omega)]) (fun j z => by rw [wh4, if_neg (by omega), wh1, if_neg (by omega)]) (by rw [wh4, if_pos ⟨rfl, rfl⟩]) ⟨by decide, by decide⟩ (fun j z1 z2 => by omega)⟩
