set_option maxHeartbeats 4000000 in
set_option maxRecDepth 100000 in
theorem k_X5_undo {Ω : xO} {h : xM} {x lo : Nat} {L : lS} (hE : EL h x lo L) : xCt Ω yX5_undo cX5_undo 2 (some .int) rm_X5_undo [rf x] h (fun q h' => 0 < lZ L ∧ q = some (vi (lZ L - 1)) ∧ EL h' x lo (sZ (sA L (lSv L (lZ L - 1))) (lZ L - 1)) ∧ EF h h' x lo) (PX3 (0 < lZ L) (True) (True) xIS xIS xIS h) := by
  refine xCt_of (ini := false) (by decide +kernel) (Nat.le_of_ble_eq_true rfl) (fun q => absurd q (by decide)) ?_
  generalize hPR : (fun q h' => 0 < lZ L ∧ q = some (vi (lZ L - 1)) ∧ EL h' x lo (sZ (sA L (lSv L (lZ L - 1))) (lZ L - 1)) ∧ EF h h' x lo : Option xV → xM → Prop) = PR
  generalize hPX : (PX3 (0 < lZ L) (True) (True) xIS xIS xIS h : String → xM → Prop) = PX
  have K0 : X Ω RX5 cX5_undo 2 (some .int) false rm_X5_undo PR PX 0 0 0 [some (rf x), none] [] h := ?_
  exact K0
  have okA : aOK (lA L) := hE.2.1.1.2.1
  obtain ⟨okB, okN, okWl, okS, okW, okM, okC, okH⟩ := id hE.2.1.1.2.1
  have hlo := hE.2.2.2.2.2.2
  have hz6 := hE.2.2.1.2.2.1
  have hnB : mI h (x + 1) 0 = aB (lA L) := hE.2.1.1.2.2.1
  have hnW : mI h (x + 1) 1 = aW (lA L) := hE.2.1.1.2.2.2.1
  have hHz : mI h (x + 31) 0 = lZ L := hE.2.2.1.2.1
  have hTn : mI h (x + 33) 0 = lTn L := hE.2.2.2.2.1.1
  have hTr := hE.2.2.2.2.1.2.1
  refine X.aload_n (i := 0) rfl rfl dX5_undo_0 (pc' := 1) rfl ?_
  refine X.getR fk_X5_28 xcl_5 dX5_undo_1 hE.1.1 hE.1.2.2.2.1 (pc' := 4) rfl ?_
  refine X.callV (ci := 2) (a := (x + 31)) (rm := rm_X2_latest) (As := []) (st := []) dX5_undo_4 ck_X5_122 rfl (by decide) hE.1.2.2.2.2.2.2.2.1.1 rfl rfl ⟨Nat.le_of_ble_eq_true rfl, Nat.le_of_ble_eq_true rfl⟩ (Nat.le_of_ble_eq_true rfl) (Nat.le_of_ble_eq_true rfl) (Nat.le_of_ble_eq_true rfl) (pc' := 7) rfl (k_X2_latest hE.2.2.1.1 hHz hz6) (fun q1 hq1 eq1 => ?_) (fun _ _ x1 => x1.elim)
  obtain ⟨rfl, rfl⟩ := eq1
  refine X.astore_n (i := 1) (ls' := [some (rf x), some (vr ((if 0 < lZ L then mR h (x + 31 + 1) (lZ L - 1) else none)))]) (hi := rfl) (hd := dX5_undo_7) (by decide) rfl rfl (pc' := 8) rfl ?_
  refine X.aload_n (i := 1) rfl rfl dX5_undo_8 (pc' := 9) rfl ?_
  refine X.ifnonnull (tgt := 22) dX5_undo_9 (by decide) (pc' := 12) rfl (fun b hb => ?_) (fun hb => ?_)
  · rw [hb]
    have hz0 : 0 < lZ L := by
      by_cases e : 0 < lZ L
      · exact e
      · rw [if_neg e] at hb; cases hb
    rw [if_pos hz0] at hb
    have hbR : lo ≤ b ∧ RC h b (lSv L (lZ L - 1)) := by
      rcases hE.2.2.1.2.2.2.1 (lZ L - 1) (by omega) (by omega) with e | ⟨c, e1, e2, e3, e4, e5⟩
      · rw [e.1] at hb; cases hb
      · rw [e1] at hb; cases hb; exact ⟨e2, e5 (by omega)⟩
    refine X.aload_n (i := 0) rfl rfl dX5_undo_22 (pc' := 23) rfl ?_
    refine X.getR fk_X5_10 xcl_5 dX5_undo_23 hE.1.1 hE.1.2.1 (pc' := 26) rfl ?_
    refine X.aload_n (i := 1) rfl rfl dX5_undo_26 (pc' := 27) rfl ?_
    refine X.callV (ci := 0) (a := (x + 1)) (rm := rm_X0_become) (As := [rf b]) (st := []) dX5_undo_27 ck_X5_128 rfl (by decide) hE.2.1.1.1.1 rfl rfl ⟨Nat.le_of_ble_eq_true rfl, Nat.le_of_ble_eq_true rfl⟩ (Nat.le_of_ble_eq_true rfl) (Nat.le_of_ble_eq_true rfl) (Nat.le_of_ble_eq_true rfl) (pc' := 30) rfl (k_X0_become hE.2.1.1.1 hbR.2 (by omega)) (fun q2 hq2 eq2 => ?_) (fun _ _ x1 => x1.elim)
    obtain ⟨rfl, hRE, hFE⟩ := eq2
    have hE3 := hE.now hRE hFE (hE.2.2.2.2.2.1.2.1 (lZ L - 1) (by omega) (by omega))
    have hHz3 : mI hq2 (x + 31) 0 = lZ L := hE3.1.2.2.1.2.1
    refine X.aload_n (i := 0) rfl rfl dX5_undo_30 (pc' := 31) rfl ?_
    refine X.getR fk_X5_28 xcl_5 dX5_undo_31 hE3.1.1.1 hE3.1.1.2.2.2.1 (pc' := 34) rfl ?_
    refine X.callV (ci := 2) (a := (x + 31)) (rm := rm_X2_dropLatest) (As := []) (st := []) dX5_undo_34 ck_X5_131 rfl (by decide) hE3.1.1.2.2.2.2.2.2.2.1.1 rfl rfl ⟨Nat.le_of_ble_eq_true rfl, Nat.le_of_ble_eq_true rfl⟩ (Nat.le_of_ble_eq_true rfl) (Nat.le_of_ble_eq_true rfl) (Nat.le_of_ble_eq_true rfl) (pc' := 37) rfl (k_X2_dropLatest hE3.1.2.2.1.1 hHz3 hz6) (fun q3 hq3 eq3 => ?_) (fun _ _ x1 => x1.elim)
    obtain ⟨rfl, hd1, hd2, hd3, hd4, hd5⟩ := eq3
    have hd6 : ∀ (q : Nat) (j : Int), mI hq3 q j = if q = x + 31 ∧ j = 0 then lZ L - 1 else mI hq2 q j := fun q j => by
      rw [hd5]
      by_cases e : q = x + 31 ∧ j = 0
      · rw [if_pos e, if_pos ⟨e.1, e.2, by omega⟩]
      · rw [if_neg e, if_neg (fun z => e ⟨z.1, z.2.1⟩)]
    have hE4 := hE3.1.drop (z := lZ L - 1) ⟨by omega, by show lZ L - 1 ≤ lZ L; omega⟩ hd1 hd2 hd3 hd4 hd6
    have hHz4 : mI hq3 (x + 31) 0 = lZ L - 1 := hE4.1.2.2.1.2.1
    refine X.aload_n (i := 0) rfl rfl dX5_undo_37 (pc' := 38) rfl ?_
    refine X.getR fk_X5_28 xcl_5 dX5_undo_38 hE4.1.1.1 hE4.1.1.2.2.2.1 (pc' := 41) rfl ?_
    refine X.getI (x := mI hq3 ((x + 31)) 0) fk_X5_134 xcl_2 dX5_undo_41 (by decide) hE4.1.1.2.2.2.2.2.2.2.1.1 rfl (pc' := 44) rfl (fun r4 => ?_)
    obtain ⟨r4a, r4b⟩ := r4
    refine X.iret dX5_undo_44 (Or.inl rfl) (Nat.le_of_ble_eq_true rfl) (Nat.le_of_ble_eq_true rfl) ?_
    subst hPR
    exact ⟨hz0, by rw [hHz4], hE4.1, hE3.2.tr hE4.2⟩
  · have hz0 : ¬ 0 < lZ L := by
      intro e
      rw [if_pos e] at hb
      rcases hE.2.2.1.2.2.2.1 (lZ L - 1) (by omega) (by omega) with e1 | ⟨c, e1, e2, e3, e4, e5⟩
      · omega
      · rw [e1] at hb; cases hb
    skip
    refine X.throw tk_55_126_59 dX5_undo_12 dX5_undo_15 dX5_undo_16 dX5_undo_18 dX5_undo_21 ⟨Nat.le_of_ble_eq_true rfl, Nat.le_of_ble_eq_true rfl⟩ (Nat.le_of_ble_eq_true rfl) (Nat.le_of_ble_eq_true rfl) (fun n1 hn1 => ?_)
    subst hPX
    exact ⟨⟨n1, hn1, rfl⟩, Or.inl ⟨by (try unfold stOK); omega, rfl⟩⟩
set_option maxHeartbeats 4000000 in
set_option maxRecDepth 100000 in
theorem k_X5_restore {Ω : xO} {h : xM} {x lo : Nat} {L : lS} (hE : EL h x lo L) : xCt Ω yX5_restore cX5_restore 1 (some .int) rm_X5_restore [rf x] h (fun q h' => lKf L = 1 ∧ q = some (vi (aB (lK L))) ∧ EL h' x lo (sA (sSave L) (lK L)) ∧ EF h h' x lo) (PX3 (lKf L = 1) (True) (True) xIS xIS xIS h) := by
  refine xCt_of (ini := false) (by decide +kernel) (Nat.le_of_ble_eq_true rfl) (fun q => absurd q (by decide)) ?_
  generalize hPR : (fun q h' => lKf L = 1 ∧ q = some (vi (aB (lK L))) ∧ EL h' x lo (sA (sSave L) (lK L)) ∧ EF h h' x lo : Option xV → xM → Prop) = PR
  generalize hPX : (PX3 (lKf L = 1) (True) (True) xIS xIS xIS h : String → xM → Prop) = PX
  have K0 : X Ω RX5 cX5_restore 1 (some .int) false rm_X5_restore PR PX 0 0 0 [some (rf x)] [] h := ?_
  exact K0
  have okA : aOK (lA L) := hE.2.1.1.2.1
  obtain ⟨okB, okN, okWl, okS, okW, okM, okC, okH⟩ := id hE.2.1.1.2.1
  have hlo := hE.2.2.2.2.2.2
  have hz6 := hE.2.2.1.2.2.1
  have hnB : mI h (x + 1) 0 = aB (lA L) := hE.2.1.1.2.2.1
  have hnW : mI h (x + 1) 1 = aW (lA L) := hE.2.1.1.2.2.2.1
  have hHz : mI h (x + 31) 0 = lZ L := hE.2.2.1.2.1
  have hTn : mI h (x + 33) 0 = lTn L := hE.2.2.2.2.1.1
  have hTr := hE.2.2.2.2.1.2.1
  refine X.aload_n (i := 0) rfl rfl dX5_restore_0 (pc' := 1) rfl ?_
  refine X.getR (x := mR h x 4) fk_X5_137 xcl_5 dX5_restore_1 hE.1.1 rfl (pc' := 4) rfl ?_
  refine X.ifnonnull (tgt := 17) dX5_restore_4 (by decide) (pc' := 7) rfl (fun b hb => ?_) (fun hb => ?_)
  · have hkf : lKf L = 1 := by
      rcases hE.2.2.2.1 with e | ⟨c, e1, e2⟩
      · rw [e.1] at hb; cases hb
      · exact e1
    refine X.aload_n (i := 0) rfl rfl dX5_restore_17 (pc' := 18) rfl ?_
    refine X.getR fk_X5_28 xcl_5 dX5_restore_18 hE.1.1 hE.1.2.2.2.1 (pc' := 21) rfl ?_
    refine X.aload_n (i := 0) rfl rfl dX5_restore_21 (pc' := 22) rfl ?_
    refine X.getR fk_X5_10 xcl_5 dX5_restore_22 hE.1.1 hE.1.2.1 (pc' := 25) rfl ?_
    refine X.callV (ci := 2) (a := (x + 31)) (rm := rm_X2_save) (As := [rf ((x + 1))]) (st := []) dX5_restore_25 ck_X5_62 rfl (by decide) hE.1.2.2.2.2.2.2.2.1.1 rfl rfl ⟨Nat.le_of_ble_eq_true rfl, Nat.le_of_ble_eq_true rfl⟩ (Nat.le_of_ble_eq_true rfl) (Nat.le_of_ble_eq_true rfl) (Nat.le_of_ble_eq_true rfl) (pc' := 28) rfl (k_X2_save hE.2.2.1 hE.2.1 (by omega) (by omega) (by omega)) (fun q1 hq1 eq1 => ?_) (fun _ _ x1 => x1.elim)
    obtain ⟨rfl, hHs, hFs⟩ := eq1
    have hE2 := hE.save hHs hFs
    have hR2 : RC hq1 (x + 1) (lA L) := hE2.1.2.1
    obtain ⟨c, hc, hcl, hcR⟩ : ∃ c, mR hq1 x 4 = some c ∧ lo ≤ c ∧ RC hq1 c (lK L) := by
      rcases hE2.1.2.2.2.1 with e | ⟨c, e1, e2, e3, e4, e5, e6⟩
      · have : lKf L = 0 := e.2
        omega
      · exact ⟨c, e2, e3, e5⟩
    refine X.aload_n (i := 0) rfl rfl dX5_restore_28 (pc' := 29) rfl ?_
    refine X.getR fk_X5_10 xcl_5 dX5_restore_29 hE2.1.1.1 hE2.1.1.2.1 (pc' := 32) rfl ?_
    refine X.aload_n (i := 0) rfl rfl dX5_restore_32 (pc' := 33) rfl ?_
    refine X.getR fk_X5_137 xcl_5 dX5_restore_33 hE2.1.1.1 hc (pc' := 36) rfl ?_
    refine X.callV (ci := 0) (a := (x + 1)) (rm := rm_X0_become) (As := [rf c]) (st := []) dX5_restore_36 ck_X5_128 rfl (by decide) hR2.1.1.1 rfl rfl ⟨Nat.le_of_ble_eq_true rfl, Nat.le_of_ble_eq_true rfl⟩ (Nat.le_of_ble_eq_true rfl) (Nat.le_of_ble_eq_true rfl) (Nat.le_of_ble_eq_true rfl) (pc' := 39) rfl (k_X0_become hR2.1.1 hcR (by omega)) (fun q2 hq2 eq2 => ?_) (fun _ _ x1 => x1.elim)
    obtain ⟨rfl, hRE, hFE⟩ := eq2
    have hE3 := hE2.1.now hRE hFE (hE.2.2.2.2.2.1.2.2 hkf)
    have hBr2 : mI hq2 (x + 1) 0 = aB (lK L) := hRE.1.2.2.1
    refine X.aload_n (i := 0) rfl rfl dX5_restore_39 (pc' := 40) rfl ?_
    refine X.getR fk_X5_10 xcl_5 dX5_restore_40 hE3.1.1.1 hE3.1.1.2.1 (pc' := 43) rfl ?_
    refine X.getI (x := mI hq2 ((x + 1)) 0) fk_X5_78 xcl_0 dX5_restore_43 (by decide) hE3.1.1.2.2.2.2.2.1.1 rfl (pc' := 46) rfl (fun r3 => ?_)
    obtain ⟨r3a, r3b⟩ := r3
    refine X.iret dX5_restore_46 (Or.inl rfl) (Nat.le_of_ble_eq_true rfl) (Nat.le_of_ble_eq_true rfl) ?_
    subst hPR
    exact ⟨hkf, by rw [hBr2], hE3.1, hE2.2.tr hE3.2⟩
  · have hkf : ¬ lKf L = 1 := by
      rcases hE.2.2.2.1 with e | ⟨c, e1, e2, e3⟩
      · omega
      · rw [e2] at hb; cases hb
    skip
    refine X.throw tk_55_140_59 dX5_restore_7 dX5_restore_10 dX5_restore_11 dX5_restore_13 dX5_restore_16 ⟨Nat.le_of_ble_eq_true rfl, Nat.le_of_ble_eq_true rfl⟩ (Nat.le_of_ble_eq_true rfl) (Nat.le_of_ble_eq_true rfl) (fun n1 hn1 => ?_)
    subst hPX
    exact ⟨⟨n1, hn1, rfl⟩, Or.inl ⟨by (try unfold stOK); omega, rfl⟩⟩
set_option maxHeartbeats 4000000 in
set_option maxRecDepth 100000 in
theorem k_X5_keep {Ω : xO} {h : xM} {x lo : Nat} {L : lS} (hE : EL h x lo L) : xCt Ω yX5_keep cX5_keep 1 (some .int) rm_X5_keep [rf x] h (fun q h' => q = some (vi (aB (lA L))) ∧ EL h' x lo (sK L) ∧ EF h h' x lo) xNo := by
  refine xCt_of (ini := false) (by decide +kernel) (Nat.le_of_ble_eq_true rfl) (fun q => absurd q (by decide)) ?_
  generalize hPR : (fun q h' => q = some (vi (aB (lA L))) ∧ EL h' x lo (sK L) ∧ EF h h' x lo : Option xV → xM → Prop) = PR
  have K0 : X Ω RX5 cX5_keep 1 (some .int) false rm_X5_keep PR xNo 0 0 0 [some (rf x)] [] h := ?_
  exact K0
  have okA : aOK (lA L) := hE.2.1.1.2.1
  obtain ⟨okB, okN, okWl, okS, okW, okM, okC, okH⟩ := id hE.2.1.1.2.1
  have hlo := hE.2.2.2.2.2.2
  have hz6 := hE.2.2.1.2.2.1
  have hnB : mI h (x + 1) 0 = aB (lA L) := hE.2.1.1.2.2.1
  have hnW : mI h (x + 1) 1 = aW (lA L) := hE.2.1.1.2.2.2.1
  have hHz : mI h (x + 31) 0 = lZ L := hE.2.2.1.2.1
  have hTn : mI h (x + 33) 0 = lTn L := hE.2.2.2.2.1.1
  have hTr := hE.2.2.2.2.1.2.1
  refine X.aload_n (i := 0) rfl rfl dX5_keep_0 (pc' := 1) rfl ?_
  refine X.getR (x := mR h x 4) fk_X5_137 xcl_5 dX5_keep_1 hE.1.1 rfl (pc' := 4) rfl ?_
  refine X.ifnonnull (tgt := 18) dX5_keep_4 (by decide) (pc' := 7) rfl (fun b hb => ?_) (fun hb => ?_)
  · have hbR : lo ≤ b ∧ b + 29 ≤ mN h ∧ ChS h b ∧ (∀ i c, 0 ≤ i → i < 6 → mR h (x + 31 + 1) i = some c → c + 29 ≤ b ∨ b + 29 ≤ c) := by
      rcases hE.2.2.2.1 with e | ⟨c, e1, e2, e3, e4, e5, e6⟩
      · rw [e.1] at hb; cases hb
      · rw [e2] at hb; cases hb; exact ⟨e3, e4, e5.1.1, e6⟩
    have hRx := hE.2.1
    refine X.aload_n (i := 0) rfl rfl dX5_keep_18 (pc' := 19) rfl ?_
    refine X.getR fk_X5_137 xcl_5 dX5_keep_19 hE.1.1 hb (pc' := 22) rfl ?_
    refine X.aload_n (i := 0) rfl rfl dX5_keep_22 (pc' := 23) rfl ?_
    refine X.getR fk_X5_10 xcl_5 dX5_keep_23 hE.1.1 hE.1.2.1 (pc' := 26) rfl ?_
    refine X.callV (ci := 0) (a := b) (rm := rm_X0_become) (As := [rf ((x + 1))]) (st := []) dX5_keep_26 ck_X5_128 rfl (by decide) hbR.2.2.1.1 rfl rfl ⟨Nat.le_of_ble_eq_true rfl, Nat.le_of_ble_eq_true rfl⟩ (Nat.le_of_ble_eq_true rfl) (Nat.le_of_ble_eq_true rfl) (Nat.le_of_ble_eq_true rfl) (pc' := 29) rfl (k_X0_become hbR.2.2.1 hRx (by omega)) (fun q1 hq1 eq1 => ?_) (fun _ _ x1 => x1.elim)
    obtain ⟨rfl, hRE, hFE⟩ := eq1
    have hBr : mI hq1 (x + 1) 0 = aB (lA L) := by rw [hFE.2.2.2.2 (x + 1) (by omega)]; exact hRx.1.2.2.1
    have hEl : ElS hq1 x := hE.1.sam (fun q _ _ => by rw [hFE.2.1]) (fun q j _ _ _ _ => by rw [hFE.2.2.1])
    refine X.aload_n (i := 0) rfl rfl dX5_keep_29 (pc' := 30) rfl ?_
    refine X.getR fk_X5_10 xcl_5 dX5_keep_30 hEl.1 hEl.2.1 (pc' := 33) rfl ?_
    refine X.getI (x := mI hq1 ((x + 1)) 0) fk_X5_78 xcl_0 dX5_keep_33 (by decide) hEl.2.2.2.2.2.1.1 rfl (pc' := 36) rfl (fun r2 => ?_)
    obtain ⟨r2a, r2b⟩ := r2
    refine X.iret dX5_keep_36 (Or.inl rfl) (Nat.le_of_ble_eq_true rfl) (Nat.le_of_ble_eq_true rfl) ?_
    subst hPR
    have hE3 := hE.kp (b := b) (Nat.le_of_eq hFE.1.symm) (fun q z1 z2 z3 => hFE.sam z3) ⟨by rw [hFE.2.1], fun j _ => by rw [hFE.2.2.1], by rw [hFE.2.2.1]; exact hb⟩ ⟨hbR.1, by rw [hFE.1]; exact hbR.2.1⟩ hbR.2.2.2 hRE
    exact ⟨by rw [hBr], hE3.1, hE3.2⟩
  · skip
    refine X.aload_n (i := 0) rfl rfl dX5_keep_7 (pc' := 8) rfl ?_
    refine X.new (ci := 0) dX5_keep_8 xcl_0 (by decide) rfl wd_43 wd_44 wd_22 (Nat.le_of_ble_eq_true rfl) (Nat.le_of_ble_eq_true rfl) (pc' := 11) rfl ?_
    refine X.genH (fun h3 hh3 => ?_)
    have hz0 : mI h3 (mN h) 0 = 0 ∧ mI h3 (mN h) 1 = 0 := by rw [hh3]; exact ⟨by rw [mI_aL, if_pos rfl], by rw [mI_aL, if_pos rfl]⟩
    have hN1 : mN h3 = mN h + 1 := by rw [hh3, mN_aL]
    refine X.dup rfl dX5_keep_11 (pc' := 12) rfl ?_
    refine X.callIN (a := mN h) (rm := rm_X0_init) (As := []) (st := [rf (mN h), rf x]) dX5_keep_12 ck_X5_9 rfl rfl rfl ⟨Nat.le_of_ble_eq_true rfl, Nat.le_of_ble_eq_true rfl⟩ (Nat.le_of_ble_eq_true rfl) (Nat.le_of_ble_eq_true rfl) (Nat.le_of_ble_eq_true rfl) (pc' := 15) rfl (k_X0_init (by rw [hh3, mT_aL, if_pos rfl]) hN1 hz0.1 hz0.2) (fun q4 hq4 eq4 => ?_)
    obtain ⟨rfl, hRn, hNn⟩ := eq4
    have hNw : NewS h hq4 (mN h) 29 := ⟨hNn.1, fun c hc => by
      obtain ⟨z1, z2, z3, z4⟩ := hNn.2 c hc
      have zc : c ≠ mN h := by omega
      exact ⟨by rw [z1, hh3, mT_aL, if_neg zc], by rw [z2, hh3]; funext j; rw [mI_aL, if_neg zc], by rw [z3, hh3]; funext j; rw [mR_aL, if_neg zc], by rw [z4, hh3]; funext j; rw [mL_aL, if_neg zc]⟩⟩
    have hUp := hE.up (g := hq4) (by rw [hNw.1]; omega) (fun c hc => hNw.sam (Or.inl hc))
    refine X.putR fk_X5_137 xcl_5 ⟨_, rfl, Or.inl rfl⟩ dX5_keep_15 hUp.1.1.1 (pc' := 18) rfl ?_
    refine X.genH (fun h5 hh5 => ?_)
    have wh5 : ∀ (w0 : Nat) (w1 : Int), mR h5 w0 w1 = if w0 = x ∧ w1 = 4 then some (mN h) else mR hq4 w0 w1 := fun _ _ => by rw [hh5]; rfl
    have hEs : ElS h5 x := hUp.1.1.sam (fun q _ _ => by rw [hh5]; rfl) (fun q j z1 z2 z3 z4 => by rw [wh5, if_neg (fun z => by have := z3 z.1; omega)])
    have hsm : ∀ q, q < mN h → q ≠ x → Sam h h5 q := fun q z1 z2 => (hNw.sam (Or.inl z1)).tr ⟨by rw [hh5]; rfl, by rw [hh5]; rfl, funext fun j => by rw [wh5, if_neg (fun z => z2 z.1)], by rw [hh5]; rfl⟩
    have hRx : RC h5 (x + 1) (lA L) := hE.2.1.sam (fun q z1 z2 => hsm q (by omega) (by omega))
    have hCh : ChS h5 (mN h) := hRn.1.1.of (fun q _ _ => by rw [hh5]; rfl) (fun q z1 z2 => funext fun j => by rw [wh5, if_neg (by omega)])
    have hNh : mN h5 = mN h + 29 := by rw [hh5]; exact hNw.1
    refine X.aload_n (i := 0) rfl rfl dX5_keep_18 (pc' := 19) rfl ?_
    refine X.getR fk_X5_137 xcl_5 dX5_keep_19 hEs.1 (by rw [wh5, if_pos ⟨rfl, rfl⟩]) (pc' := 22) rfl ?_
    refine X.aload_n (i := 0) rfl rfl dX5_keep_22 (pc' := 23) rfl ?_
    refine X.getR fk_X5_10 xcl_5 dX5_keep_23 hEs.1 hEs.2.1 (pc' := 26) rfl ?_
    refine X.callV (ci := 0) (a := mN h) (rm := rm_X0_become) (As := [rf ((x + 1))]) (st := []) dX5_keep_26 ck_X5_128 rfl (by decide) hCh.1 rfl rfl ⟨Nat.le_of_ble_eq_true rfl, Nat.le_of_ble_eq_true rfl⟩ (Nat.le_of_ble_eq_true rfl) (Nat.le_of_ble_eq_true rfl) (Nat.le_of_ble_eq_true rfl) (pc' := 29) rfl (k_X0_become hCh hRx (by omega)) (fun q6 hq6 eq6 => ?_) (fun _ _ x1 => x1.elim)
    obtain ⟨rfl, hRE, hFE⟩ := eq6
    have hBr : mI hq6 (x + 1) 0 = aB (lA L) := by rw [hFE.2.2.2.2 (x + 1) (by omega)]; exact hRx.1.2.2.1
    have hEl : ElS hq6 x := hEs.sam (fun q _ _ => by rw [hFE.2.1]) (fun q j _ _ _ _ => by rw [hFE.2.2.1])
    refine X.aload_n (i := 0) rfl rfl dX5_keep_29 (pc' := 30) rfl ?_
    refine X.getR fk_X5_10 xcl_5 dX5_keep_30 hEl.1 hEl.2.1 (pc' := 33) rfl ?_
    refine X.getI (x := mI hq6 ((x + 1)) 0) fk_X5_78 xcl_0 dX5_keep_33 (by decide) hEl.2.2.2.2.2.1.1 rfl (pc' := 36) rfl (fun r7 => ?_)
    obtain ⟨r7a, r7b⟩ := r7
    refine X.iret dX5_keep_36 (Or.inl rfl) (Nat.le_of_ble_eq_true rfl) (Nat.le_of_ble_eq_true rfl) ?_
    subst hPR
    have hE3 := hE.kp (b := mN h) (by rw [hFE.1]; omega) (fun q z1 z2 z3 => (hsm q z1 z2).tr (hFE.sam z3)) ⟨by rw [hFE.2.1, hh5]; exact (hNw.sam (Or.inl (by omega))).1, fun j z => by rw [hFE.2.2.1, wh5, if_neg (fun y => z y.2), (hNw.sam (Or.inl (by omega))).2.2.1], by rw [hFE.2.2.1, wh5, if_pos ⟨rfl, rfl⟩]⟩ ⟨by omega, by rw [hFE.1]; omega⟩ (fun i c z1 z2 z3 => Or.inl (hE.2.2.1.blk z1 z2 z3).2.1) hRE
    exact ⟨by rw [hBr], hE3.1, hE3.2⟩
