set_option maxHeartbeats 4000000 in
set_option maxRecDepth 100000 in
theorem k_X6_undo {Ω : xO} {h : xM} {m : Nat} {L : lS} (hL : ML h m L) : xCt Ω yX6_undo cX6_undo 1 (some .int) rm_X6_undo [rf m] h (fun q h' => FM h h' m ∧ ∃ v, q = some (vi v) ∧ ((((0 < lZ L) ∧ (True) ∧ (True)) ∧ mI h' m 3 = 0 ∧ v = lZ L - 1 ∧ ML h' m (sZ (sA L (lSv L (lZ L - 1))) (lZ L - 1))) ∨ (py3 (0 < lZ L) (True) (True) (mI h' m 3) ∧ v = 0 ∧ ML h' m L))) xNo := by
  refine xCt_of (ini := false) (by decide +kernel) (Nat.le_of_ble_eq_true rfl) (fun q => absurd q (by decide)) ?_
  generalize hPR : (fun q h' => FM h h' m ∧ ∃ v, q = some (vi v) ∧ ((((0 < lZ L) ∧ (True) ∧ (True)) ∧ mI h' m 3 = 0 ∧ v = lZ L - 1 ∧ ML h' m (sZ (sA L (lSv L (lZ L - 1))) (lZ L - 1))) ∨ (py3 (0 < lZ L) (True) (True) (mI h' m 3) ∧ v = 0 ∧ ML h' m L)) : Option xV → xM → Prop) = PR
  have K0 : X Ω RX6 cX6_undo 1 (some .int) false rm_X6_undo PR xNo 0 0 0 [some (rf m)] [] h := ?_
  exact K0
  have hz := hL.2.2.1
  have hO := hL.2.2.2.2.2.2.2.2
  have hz6 := hO.2.2.1
  have hA : aOK (lA L) := hO.2.1.1
  have hM := hL.2.1
  obtain ⟨mSt, mB, mW, mWl, mWo, mCo, mHe⟩ := id hM
  obtain ⟨okB, okN, okWl, okS, okW, okM, okC, okH⟩ := id hA
  have hTn := hL.2.2.2.2.2.2.1
  have hTr := hO.2.2.2.2.1
  have hKf := hL.2.2.2.2.1
  have hKb := hO.2.2.2.1
  refine X.aload_n (i := 0) rfl rfl dX6_undo_0 (pc' := 1) rfl ?_
  refine X.aload_n (i := 0) rfl rfl dX6_undo_1 (pc' := 2) rfl ?_
  refine X.getI (x := mI h m 1) fk_X6_25 xcl_6 dX6_undo_2 (by decide) hL.1.1 rfl (pc' := 5) rfl (fun r1 => ?_)
  obtain ⟨r1a, r1b⟩ := r1
  refine X.if_le (tgt := 12) dX6_undo_5 ⟨by omega, by omega⟩ (by decide) (pc' := 8) rfl (fun c5 => ?_) (fun c5 => ?_)
  · refine X.iconst dX6_undo_12 (pc' := 13) rfl ?_
    refine X.iconst dX6_undo_13 (pc' := 14) rfl ?_
    refine X.iconst dX6_undo_14 (pc' := 15) rfl ?_
    refine X.callV (ci := 6) (a := m) (rm := rm_X6_goes) (As := [vi 0, vi 1, vi 1]) (st := []) dX6_undo_15 ck_X6_60 rfl (by decide) hL.1.1 rfl rfl ⟨Nat.le_of_ble_eq_true rfl, Nat.le_of_ble_eq_true rfl⟩ (Nat.le_of_ble_eq_true rfl) (Nat.le_of_ble_eq_true rfl) (Nat.le_of_ble_eq_true rfl) (pc' := 18) rfl (k_X6_goes hL.1 (by omega) (by omega) (by omega)) (fun q2 hq2 eq2 => ?_) (fun _ _ x1 => x1.elim)
    obtain ⟨hG, r3, rfl, hr3⟩ := eq2
    have hM3 : mI hq2 m 3 = (if (0 : Int) = 0 then 1 else if (1 : Int) = 0 then 2 else if (1 : Int) = 0 then 3 else 0) := by rw [hG, mI_sI, if_pos ⟨rfl, rfl⟩]
    have hFq : FM h hq2 m := by rw [hG]; exact FM.rf.w ⟨by omega, by omega⟩
    have hL2 : ML hq2 m L := hL.th hFq (by rw [hG]; funext j; rw [mI_sI, if_neg (by omega)]) (by rw [hG]; funext j; rw [mI_sI, if_neg (by omega)]) (fun j z => by rw [hG, mI_sI, if_neg (by omega)])
    refine X.if_ne (tgt := 23) dX6_undo_18 ⟨by omega, by omega⟩ (by decide) (pc' := 21) rfl (fun c18 => ?_) (fun c18 => ?_)
    · refine X.aload_n (i := 0) rfl rfl dX6_undo_23 (pc' := 24) rfl ?_
      refine X.aload_n (i := 0) rfl rfl dX6_undo_24 (pc' := 25) rfl ?_
      refine X.getI (x := mI hq2 m 1) fk_X6_25 xcl_6 dX6_undo_25 (by decide) hL2.1.1 rfl (pc' := 28) rfl (fun r4 => ?_)
      obtain ⟨r4a, r4b⟩ := r4
      refine X.iconst dX6_undo_28 (pc' := 29) rfl ?_
      have hz2 : mI hq2 m 1 = lZ L := hL2.2.2.1
      refine X.callV (ci := 6) (a := m) (rm := rm_X6_copies) (As := [vi (mI hq2 m 1), vi 0]) (st := []) dX6_undo_29 ck_X6_28 rfl (by decide) hL2.1.1 rfl rfl ⟨Nat.le_of_ble_eq_true rfl, Nat.le_of_ble_eq_true rfl⟩ (Nat.le_of_ble_eq_true rfl) (Nat.le_of_ble_eq_true rfl) (Nat.le_of_ble_eq_true rfl) (pc' := 32) rfl (k_X6_copies hL2.1 (by omega) (by omega) (by omega)) (fun q5 hq5 eq5 => ?_) (fun _ _ x1 => x1.elim)
      obtain ⟨rfl, hC⟩ := eq5
      have hC2 : hCp hq2 hq5 m (mI hq2 m 1) 0 := hC
      refine X.aload_n (i := 0) rfl rfl dX6_undo_32 (pc' := 33) rfl ?_
      rw [hz2] at hC2
      have hL5 := hL2.cp hC2 (by have := hL2.2.2.2.1 (lZ L - 1) (by omega) (by omega); rw [show lZ L - 1 + 1 = lZ L by omega] at this; exact this) (hO.2.1.2.1 (lZ L - 1) (by omega) (by omega)) (hO.1.2.1 (lZ L - 1) (by omega) (by omega))
      have hz5 : mI hq5 m 1 = lZ L := hL5.1.2.2.1
      refine X.dup rfl dX6_undo_33 (pc' := 34) rfl ?_
      refine X.getI (x := mI hq5 m 1) fk_X6_25 xcl_6 dX6_undo_34 (by decide) hL5.1.1.1 rfl (pc' := 37) rfl (fun r6 => ?_)
      obtain ⟨r6a, r6b⟩ := r6
      refine X.iconst dX6_undo_37 (pc' := 38) rfl ?_
      refine X.isub dX6_undo_38 (pc' := 39) rfl ?_
      refine X.putI fk_X6_25 xcl_6 ⟨_, rfl, Or.inl rfl⟩ dX6_undo_39 (Or.inl rfl) ⟨by omega, by omega⟩ hL5.1.1.1 (pc' := 42) rfl ?_
      refine X.genH (fun h7 hh7 => ?_)
      have wh7 : ∀ (w0 : Nat) (w1 : Int), mI h7 w0 w1 = if w0 = m ∧ w1 = 1 then (mI hq5 m 1) - 1 else mI hq5 w0 w1 := fun _ _ => by rw [hh7]; rfl
      have S8 : MoS h7 m := by rw [hh7]; exact hL5.1.1
      refine X.aload_n (i := 0) rfl rfl dX6_undo_42 (pc' := 43) rfl ?_
      refine X.getI (x := mI h7 m 1) fk_X6_25 xcl_6 dX6_undo_43 (by decide) S8.1 rfl (pc' := 46) rfl (fun r9 => ?_)
      obtain ⟨r9a, r9b⟩ := r9
      refine X.iret dX6_undo_46 (Or.inl rfl) (Nat.le_of_ble_eq_true rfl) (Nat.le_of_ble_eq_true rfl) ?_
      subst hPR
      have hz6' : mI h7 m 1 = lZ L - 1 := by rw [wh7, if_pos ⟨rfl, rfl⟩, hz5]
      have hF6 : FM hq5 h7 m := by rw [hh7]; exact FM.w FM.rf ⟨by omega, by omega⟩
      have hL6 := hL5.1.drop (z := lZ L - 1) ⟨by omega, by show lZ L - 1 ≤ lZ L; omega⟩ hF6 (funext fun j => by rw [wh7, if_neg (by omega)]) (funext fun j => by rw [wh7, if_neg (by omega)]) (fun j z => by rw [wh7, if_neg (by omega)]) hz6'
      exact ⟨(hFq.tr hC2.1).tr hF6, _, rfl, Or.inl ⟨⟨by omega, trivial, trivial⟩, by rw [wh7, if_neg (by omega), hL5.2, hM3]; split <;> (try split) <;> (try split) <;> omega, hz6', hL6⟩⟩
    · refine X.iconst dX6_undo_21 (pc' := 22) rfl ?_
      refine X.iret dX6_undo_22 (Or.inl rfl) (Nat.le_of_ble_eq_true rfl) (Nat.le_of_ble_eq_true rfl) ?_
      subst hPR
      refine ⟨hFq, _, rfl, Or.inr ⟨?_, rfl, hL2⟩⟩
      rw [hM3]
      unfold py3
      (try unfold stOK)
      split <;> (try split) <;> (try split) <;> omega
  · refine X.iconst dX6_undo_8 (pc' := 9) rfl ?_
    refine X.goto (tgt := 13) dX6_undo_9 (by decide) ?_
    refine X.iconst dX6_undo_13 (pc' := 14) rfl ?_
    refine X.iconst dX6_undo_14 (pc' := 15) rfl ?_
    refine X.callV (ci := 6) (a := m) (rm := rm_X6_goes) (As := [vi 1, vi 1, vi 1]) (st := []) dX6_undo_15 ck_X6_60 rfl (by decide) hL.1.1 rfl rfl ⟨Nat.le_of_ble_eq_true rfl, Nat.le_of_ble_eq_true rfl⟩ (Nat.le_of_ble_eq_true rfl) (Nat.le_of_ble_eq_true rfl) (Nat.le_of_ble_eq_true rfl) (pc' := 18) rfl (k_X6_goes hL.1 (by omega) (by omega) (by omega)) (fun q10 hq10 eq10 => ?_) (fun _ _ x1 => x1.elim)
    obtain ⟨hG, r11, rfl, hr11⟩ := eq10
    have hM3 : mI hq10 m 3 = (if (1 : Int) = 0 then 1 else if (1 : Int) = 0 then 2 else if (1 : Int) = 0 then 3 else 0) := by rw [hG, mI_sI, if_pos ⟨rfl, rfl⟩]
    have hFq : FM h hq10 m := by rw [hG]; exact FM.rf.w ⟨by omega, by omega⟩
    have hL2 : ML hq10 m L := hL.th hFq (by rw [hG]; funext j; rw [mI_sI, if_neg (by omega)]) (by rw [hG]; funext j; rw [mI_sI, if_neg (by omega)]) (fun j z => by rw [hG, mI_sI, if_neg (by omega)])
    refine X.if_ne (tgt := 23) dX6_undo_18 ⟨by omega, by omega⟩ (by decide) (pc' := 21) rfl (fun c18 => ?_) (fun c18 => ?_)
    · refine X.aload_n (i := 0) rfl rfl dX6_undo_23 (pc' := 24) rfl ?_
      refine X.aload_n (i := 0) rfl rfl dX6_undo_24 (pc' := 25) rfl ?_
      refine X.getI (x := mI hq10 m 1) fk_X6_25 xcl_6 dX6_undo_25 (by decide) hL2.1.1 rfl (pc' := 28) rfl (fun r12 => ?_)
      obtain ⟨r12a, r12b⟩ := r12
      refine X.iconst dX6_undo_28 (pc' := 29) rfl ?_
      have hz2 : mI hq10 m 1 = lZ L := hL2.2.2.1
      refine X.callV (ci := 6) (a := m) (rm := rm_X6_copies) (As := [vi (mI hq10 m 1), vi 0]) (st := []) dX6_undo_29 ck_X6_28 rfl (by decide) hL2.1.1 rfl rfl ⟨Nat.le_of_ble_eq_true rfl, Nat.le_of_ble_eq_true rfl⟩ (Nat.le_of_ble_eq_true rfl) (Nat.le_of_ble_eq_true rfl) (Nat.le_of_ble_eq_true rfl) (pc' := 32) rfl (k_X6_copies hL2.1 (by omega) (by omega) (by omega)) (fun q13 hq13 eq13 => ?_) (fun _ _ x1 => x1.elim)
      obtain ⟨rfl, hC⟩ := eq13
      have hC2 : hCp hq10 hq13 m (mI hq10 m 1) 0 := hC
      refine X.aload_n (i := 0) rfl rfl dX6_undo_32 (pc' := 33) rfl ?_
      rw [hz2] at hC2
      have hL5 := hL2.cp hC2 (by have := hL2.2.2.2.1 (lZ L - 1) (by omega) (by omega); rw [show lZ L - 1 + 1 = lZ L by omega] at this; exact this) (hO.2.1.2.1 (lZ L - 1) (by omega) (by omega)) (hO.1.2.1 (lZ L - 1) (by omega) (by omega))
      have hz5 : mI hq13 m 1 = lZ L := hL5.1.2.2.1
      refine X.dup rfl dX6_undo_33 (pc' := 34) rfl ?_
      refine X.getI (x := mI hq13 m 1) fk_X6_25 xcl_6 dX6_undo_34 (by decide) hL5.1.1.1 rfl (pc' := 37) rfl (fun r14 => ?_)
      obtain ⟨r14a, r14b⟩ := r14
      refine X.iconst dX6_undo_37 (pc' := 38) rfl ?_
      refine X.isub dX6_undo_38 (pc' := 39) rfl ?_
      refine X.putI fk_X6_25 xcl_6 ⟨_, rfl, Or.inl rfl⟩ dX6_undo_39 (Or.inl rfl) ⟨by omega, by omega⟩ hL5.1.1.1 (pc' := 42) rfl ?_
      refine X.genH (fun h15 hh15 => ?_)
      have wh15 : ∀ (w0 : Nat) (w1 : Int), mI h15 w0 w1 = if w0 = m ∧ w1 = 1 then (mI hq13 m 1) - 1 else mI hq13 w0 w1 := fun _ _ => by rw [hh15]; rfl
      have S16 : MoS h15 m := by rw [hh15]; exact hL5.1.1
      refine X.aload_n (i := 0) rfl rfl dX6_undo_42 (pc' := 43) rfl ?_
      refine X.getI (x := mI h15 m 1) fk_X6_25 xcl_6 dX6_undo_43 (by decide) S16.1 rfl (pc' := 46) rfl (fun r17 => ?_)
      obtain ⟨r17a, r17b⟩ := r17
      refine X.iret dX6_undo_46 (Or.inl rfl) (Nat.le_of_ble_eq_true rfl) (Nat.le_of_ble_eq_true rfl) ?_
      subst hPR
      have hz6' : mI h15 m 1 = lZ L - 1 := by rw [wh15, if_pos ⟨rfl, rfl⟩, hz5]
      have hF6 : FM hq13 h15 m := by rw [hh15]; exact FM.w FM.rf ⟨by omega, by omega⟩
      have hL6 := hL5.1.drop (z := lZ L - 1) ⟨by omega, by show lZ L - 1 ≤ lZ L; omega⟩ hF6 (funext fun j => by rw [wh15, if_neg (by omega)]) (funext fun j => by rw [wh15, if_neg (by omega)]) (fun j z => by rw [wh15, if_neg (by omega)]) hz6'
      exact ⟨(hFq.tr hC2.1).tr hF6, _, rfl, Or.inl ⟨⟨by omega, trivial, trivial⟩, by rw [wh15, if_neg (by omega), hL5.2, hM3]; split <;> (try split) <;> (try split) <;> omega, hz6', hL6⟩⟩
    · refine X.iconst dX6_undo_21 (pc' := 22) rfl ?_
      refine X.iret dX6_undo_22 (Or.inl rfl) (Nat.le_of_ble_eq_true rfl) (Nat.le_of_ble_eq_true rfl) ?_
      subst hPR
      refine ⟨hFq, _, rfl, Or.inr ⟨?_, rfl, hL2⟩⟩
      rw [hM3]
      unfold py3
      (try unfold stOK)
      split <;> (try split) <;> (try split) <;> omega
set_option maxHeartbeats 4000000 in
set_option maxRecDepth 100000 in
theorem k_X6_restore {Ω : xO} {h : xM} {m : Nat} {L : lS} (hL : ML h m L) : xCt Ω yX6_restore cX6_restore 1 (some .int) rm_X6_restore [rf m] h (fun q h' => FM h h' m ∧ ∃ v, q = some (vi v) ∧ ((((lKf L = 1) ∧ (True) ∧ (True)) ∧ mI h' m 3 = 0 ∧ v = aB (lK L) ∧ ML h' m (sA (sSave L) (lK L))) ∨ (py3 (lKf L = 1) (True) (True) (mI h' m 3) ∧ v = 0 ∧ ML h' m L))) xNo := by
  refine xCt_of (ini := false) (by decide +kernel) (Nat.le_of_ble_eq_true rfl) (fun q => absurd q (by decide)) ?_
  generalize hPR : (fun q h' => FM h h' m ∧ ∃ v, q = some (vi v) ∧ ((((lKf L = 1) ∧ (True) ∧ (True)) ∧ mI h' m 3 = 0 ∧ v = aB (lK L) ∧ ML h' m (sA (sSave L) (lK L))) ∨ (py3 (lKf L = 1) (True) (True) (mI h' m 3) ∧ v = 0 ∧ ML h' m L)) : Option xV → xM → Prop) = PR
  have K0 : X Ω RX6 cX6_restore 1 (some .int) false rm_X6_restore PR xNo 0 0 0 [some (rf m)] [] h := ?_
  exact K0
  have hz := hL.2.2.1
  have hO := hL.2.2.2.2.2.2.2.2
  have hz6 := hO.2.2.1
  have hA : aOK (lA L) := hO.2.1.1
  have hM := hL.2.1
  obtain ⟨mSt, mB, mW, mWl, mWo, mCo, mHe⟩ := id hM
  obtain ⟨okB, okN, okWl, okS, okW, okM, okC, okH⟩ := id hA
  have hTn := hL.2.2.2.2.2.2.1
  have hTr := hO.2.2.2.2.1
  have hKf := hL.2.2.2.2.1
  have hKb := hO.2.2.2.1
  refine X.aload_n (i := 0) rfl rfl dX6_restore_0 (pc' := 1) rfl ?_
  refine X.aload_n (i := 0) rfl rfl dX6_restore_1 (pc' := 2) rfl ?_
  refine X.getI (x := mI h m 2) fk_X6_117 xcl_6 dX6_restore_2 (by decide) hL.1.1 rfl (pc' := 5) rfl (fun r1 => ?_)
  obtain ⟨r1a, r1b⟩ := r1
  refine X.iconst dX6_restore_5 (pc' := 6) rfl ?_
  refine X.iconst dX6_restore_6 (pc' := 7) rfl ?_
  refine X.callV (ci := 6) (a := m) (rm := rm_X6_goes) (As := [vi (mI h m 2), vi 1, vi 1]) (st := []) dX6_restore_7 ck_X6_60 rfl (by decide) hL.1.1 rfl rfl ⟨Nat.le_of_ble_eq_true rfl, Nat.le_of_ble_eq_true rfl⟩ (Nat.le_of_ble_eq_true rfl) (Nat.le_of_ble_eq_true rfl) (Nat.le_of_ble_eq_true rfl) (pc' := 10) rfl (k_X6_goes hL.1 (by omega) (by omega) (by omega)) (fun q2 hq2 eq2 => ?_) (fun _ _ x1 => x1.elim)
  obtain ⟨hG, r3, rfl, hr3⟩ := eq2
  have hM3 : mI hq2 m 3 = (if (mI h m 2 : Int) = 0 then 1 else if (1 : Int) = 0 then 2 else if (1 : Int) = 0 then 3 else 0) := by rw [hG, mI_sI, if_pos ⟨rfl, rfl⟩]
  have hFq : FM h hq2 m := by rw [hG]; exact FM.rf.w ⟨by omega, by omega⟩
  have hL2 : ML hq2 m L := hL.th hFq (by rw [hG]; funext j; rw [mI_sI, if_neg (by omega)]) (by rw [hG]; funext j; rw [mI_sI, if_neg (by omega)]) (fun j z => by rw [hG, mI_sI, if_neg (by omega)])
  refine X.if_ne (tgt := 15) dX6_restore_10 ⟨by omega, by omega⟩ (by decide) (pc' := 13) rfl (fun c10 => ?_) (fun c10 => ?_)
  · refine X.aload_n (i := 0) rfl rfl dX6_restore_15 (pc' := 16) rfl ?_
    refine X.callV (ci := 6) (a := m) (rm := rm_X6_saves) (As := []) (st := []) dX6_restore_16 ck_X6_64 rfl (by decide) hL2.1.1 rfl rfl ⟨Nat.le_of_ble_eq_true rfl, Nat.le_of_ble_eq_true rfl⟩ (Nat.le_of_ble_eq_true rfl) (Nat.le_of_ble_eq_true rfl) (Nat.le_of_ble_eq_true rfl) (pc' := 19) rfl (k_X6_saves hL2) (fun q4 hq4 eq4 => ?_) (fun _ _ x1 => x1.elim)
    obtain ⟨rfl, hL3, hG3⟩ := eq4
    have hM30 : mI hq4 m 3 = 0 := by rw [hG3.2.2.1 3 (by omega), hM3]; split <;> (try split) <;> (try split) <;> omega
    have mA3 : RM hq4 (m + 1) 0 (lA L) := hL3.2.1
    obtain ⟨nSt, nB, nW, nWl, nWo, nCo, nHe⟩ := id mA3
    refine X.aload_n (i := 0) rfl rfl dX6_restore_19 (pc' := 20) rfl ?_
    refine X.bipush (by decide +kernel) dX6_restore_20 (pc' := 22) rfl ?_
    refine X.iconst dX6_restore_22 (pc' := 23) rfl ?_
    refine X.callV (ci := 6) (a := m) (rm := rm_X6_copies) (As := [vi 7, vi 0]) (st := []) dX6_restore_23 ck_X6_28 rfl (by decide) hL3.1.1 rfl rfl ⟨Nat.le_of_ble_eq_true rfl, Nat.le_of_ble_eq_true rfl⟩ (Nat.le_of_ble_eq_true rfl) (Nat.le_of_ble_eq_true rfl) (Nat.le_of_ble_eq_true rfl) (pc' := 26) rfl (k_X6_copies hL3.1 (by omega) (by omega) (by omega)) (fun q5 hq5 eq5 => ?_) (fun _ _ x1 => x1.elim)
    obtain ⟨rfl, hC⟩ := eq5
    have hC2 : hCp hq4 hq5 m (7) 0 := hC
    have hkf : lKf L = 1 := by omega
    have hL5 := hL3.cp hC2 (hL3.2.2.2.2.2.1 hkf) (hO.2.1.2.2 hkf) (hO.1.2.2 hkf)
    refine X.aload_n (i := 0) rfl rfl dX6_restore_26 (pc' := 27) rfl ?_
    refine X.getR fk_X6_8 xcl_6 dX6_restore_27 hL5.1.1.1 hL5.1.1.2.1 (pc' := 30) rfl ?_
    refine X.iconst dX6_restore_30 (pc' := 31) rfl ?_
    refine X.iald (x := aB (lK L)) dX6_restore_31 hL5.1.1.2.2.1 (by omega) (by omega) ⟨by omega, by omega⟩ (mI_at hL5.1.2.1.2.1 (by omega)) (pc' := 32) rfl (fun r6 => ?_)
    obtain ⟨r6a, r6b⟩ := r6
    refine X.iret dX6_restore_32 (Or.inl rfl) (Nat.le_of_ble_eq_true rfl) (Nat.le_of_ble_eq_true rfl) ?_
    subst hPR
    exact ⟨(hFq.tr hG3.1).tr hC2.1, _, rfl, Or.inl ⟨⟨by omega, trivial, trivial⟩, by rw [hL5.2]; exact hM30, rfl, hL5.1⟩⟩
  · refine X.iconst dX6_restore_13 (pc' := 14) rfl ?_
    refine X.iret dX6_restore_14 (Or.inl rfl) (Nat.le_of_ble_eq_true rfl) (Nat.le_of_ble_eq_true rfl) ?_
    subst hPR
    refine ⟨hFq, _, rfl, Or.inr ⟨?_, rfl, hL2⟩⟩
    rw [hM3]
    unfold py3
    (try unfold stOK)
    split <;> (try split) <;> (try split) <;> omega
