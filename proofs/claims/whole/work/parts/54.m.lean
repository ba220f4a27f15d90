set_option maxHeartbeats 4000000 in
set_option maxRecDepth 100000 in
theorem k_X6_keep {Ω : xO} {h : xM} {m : Nat} {L : lS} (hL : ML h m L) : xCt Ω yX6_keep cX6_keep 1 (some .int) rm_X6_keep [rf m] h (fun q h' => FM h h' m ∧ q = some (vi (aB (lA L))) ∧ mI h' m 3 = 0 ∧ ML h' m (sK L)) xNo := by
  refine xCt_of (ini := false) (by decide +kernel) (Nat.le_of_ble_eq_true rfl) (fun q => absurd q (by decide)) ?_
  generalize hPR : (fun q h' => FM h h' m ∧ q = some (vi (aB (lA L))) ∧ mI h' m 3 = 0 ∧ ML h' m (sK L) : Option xV → xM → Prop) = PR
  have K0 : X Ω RX6 cX6_keep 1 (some .int) false rm_X6_keep PR xNo 0 0 0 [some (rf m)] [] h := ?_
  exact K0
  have hz := hL.2.2.1
  have hO := hL.2.2.2.2.2.2.2.2
  have hz6 := hO.2.2.1
  have hA : aOK (lA L) := hO.2.1.1
  have hM := hL.2.1
  obtain ⟨mSt, mB, mW, mWl, mWo, mCo, mHe⟩ := id hM
  obtain ⟨okB, okN, okWl, okS, okW, okM, okC, okH⟩ := id hA
  have hTn := hL.2.2.2.2.2.2.1
  have hTr := hO.2.2.2.2.1
  have hKf := hL.2.2.2.2.1
  have hKb := hO.2.2.2.1
  refine X.aload_n (i := 0) rfl rfl dX6_keep_0 (pc' := 1) rfl ?_
  refine X.iconst dX6_keep_1 (pc' := 2) rfl ?_
  refine X.putI fk_X6_21 xcl_6 ⟨_, rfl, Or.inl rfl⟩ dX6_keep_2 (Or.inl rfl) ⟨by omega, by omega⟩ hL.1.1 (pc' := 5) rfl ?_
  refine X.genH (fun h1 hh1 => ?_)
  have wh1 : ∀ (w0 : Nat) (w1 : Int), mI h1 w0 w1 = if w0 = m ∧ w1 = 3 then 0 else mI h w0 w1 := fun _ _ => by rw [hh1]; rfl
  have S2 : MoS h1 m := by rw [hh1]; exact hL.1
  refine X.aload_n (i := 0) rfl rfl dX6_keep_5 (pc' := 6) rfl ?_
  refine X.iconst dX6_keep_6 (pc' := 7) rfl ?_
  refine X.bipush (by decide +kernel) dX6_keep_7 (pc' := 9) rfl ?_
  refine X.callV (ci := 6) (a := m) (rm := rm_X6_copies) (As := [vi 0, vi 7]) (st := []) dX6_keep_9 ck_X6_28 rfl (by decide) S2.1 rfl rfl ⟨Nat.le_of_ble_eq_true rfl, Nat.le_of_ble_eq_true rfl⟩ (Nat.le_of_ble_eq_true rfl) (Nat.le_of_ble_eq_true rfl) (Nat.le_of_ble_eq_true rfl) (pc' := 12) rfl (k_X6_copies S2 (by omega) (by omega) (by omega)) (fun q3 hq3 eq3 => ?_) (fun _ _ x1 => x1.elim)
  obtain ⟨rfl, hC⟩ := eq3
  have hC2 : hCp h1 hq3 m 0 7 := hC
  have hSc : MoS hq3 m := hL.1.eq (by rw [hC2.1.2.1, hh1]; rfl) (by rw [hC2.1.2.2.1, hh1]; rfl)
  refine X.aload_n (i := 0) rfl rfl dX6_keep_12 (pc' := 13) rfl ?_
  refine X.iconst dX6_keep_13 (pc' := 14) rfl ?_
  refine X.putI fk_X6_117 xcl_6 ⟨_, rfl, Or.inl rfl⟩ dX6_keep_14 (Or.inr ⟨rfl, by omega⟩) ⟨by omega, by omega⟩ hSc.1 (pc' := 17) rfl ?_
  refine X.genH (fun h4 hh4 => ?_)
  have wh4 : ∀ (w0 : Nat) (w1 : Int), mI h4 w0 w1 = if w0 = m ∧ w1 = 2 then 1 else mI hq3 w0 w1 := fun _ _ => by rw [hh4]; rfl
  have S5 : MoS h4 m := by rw [hh4]; exact hSc
  refine X.aload_n (i := 0) rfl rfl dX6_keep_17 (pc' := 18) rfl ?_
  refine X.getR fk_X6_8 xcl_6 dX6_keep_18 S5.1 S5.2.1 (pc' := 21) rfl ?_
  refine X.iconst dX6_keep_21 (pc' := 22) rfl ?_
  refine X.iald (x := mI h4 ((m + 1)) 3) dX6_keep_22 S5.2.2.1 (by omega) (by omega) ⟨by omega, by omega⟩ rfl (pc' := 23) rfl (fun r6 => ?_)
  obtain ⟨r6a, r6b⟩ := r6
  refine X.iret dX6_keep_23 (Or.inl rfl) (Nat.le_of_ble_eq_true rfl) (Nat.le_of_ble_eq_true rfl) ?_
  subst hPR
  have hF6 : FM h h4 m := by rw [hh4]; exact FM.w ((show FM h h1 m by rw [hh1]; exact FM.rf.w ⟨by omega, by omega⟩).tr hC2.1) ⟨by omega, by omega⟩
  have hrow : ∀ j, mI h4 (m + 1) j = mI hq3 (m + 1) j := fun j => by rw [wh4, if_neg (by omega)]
  have hrow2 : ∀ j, mI h1 (m + 1) j = mI h (m + 1) j := fun j => by rw [wh1, if_neg (by omega)]
  have hL5 := hL.keep hF6 (fun j z1 z2 => by rw [hrow, hC2.2.2.1 j z1 z2, hrow2]; rfl) (fun j z => by rw [hrow, hC2.2.2.2 j (by omega), hrow2]) (funext fun j => by rw [wh4, if_neg (by omega), hC2.2.1 (m + 2) (by omega), wh1, if_neg (by omega)]) (fun j z => by rw [wh4, if_neg (by omega), hC2.2.1 m (by omega), wh1, if_neg (by omega)]) (by rw [wh4, if_pos ⟨rfl, rfl⟩])
  exact ⟨hF6, by rw [mI_at hL5.2.1.2.1 (by omega)]; rfl, by rw [wh4, if_neg (by omega), hC2.2.1 m (by omega), wh1, if_pos ⟨rfl, rfl⟩], hL5⟩
