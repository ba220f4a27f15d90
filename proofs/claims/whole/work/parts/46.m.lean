set_option maxHeartbeats 4000000 in
set_option maxRecDepth 100000 in
theorem k_X6_part {Ω : xO} {h : xM} {m : Nat} {n w : Int} (hS : MoS h m) (hn : 0 ≤ n ∧ n < 200) (hw : 0 ≤ w ∧ w < 10) : xCt Ω yX6_part cX6_part 3 (some .int) rm_X6_part [rf m, vi n, vi w] h (fun q h' => h = h' ∧ ∃ r, q = some (vi r) ∧ r = mI h (m + 1) (11 + 10 * n + w)) xNo := by
  refine xCt_of (ini := false) (by decide +kernel) (Nat.le_of_ble_eq_true rfl) (fun q => absurd q (by decide)) ?_
  generalize hPR : (fun q h' => h = h' ∧ ∃ r, q = some (vi r) ∧ r = mI h (m + 1) (11 + 10 * n + w) : Option xV → xM → Prop) = PR
  have K0 : X Ω RX6 cX6_part 3 (some .int) false rm_X6_part PR xNo 0 0 0 [some (rf m), some (vi n), some (vi w)] [] h := ?_
  exact K0
  refine X.aload_n (i := 0) rfl rfl dX6_part_0 (pc' := 1) rfl ?_
  refine X.getR fk_X6_8 xcl_6 dX6_part_1 hS.1 hS.2.1 (pc' := 4) rfl ?_
  refine X.bipush (by decide +kernel) dX6_part_4 (pc' := 6) rfl ?_
  refine X.bipush (by decide +kernel) dX6_part_6 (pc' := 8) rfl ?_
  refine X.iload_n (i := 1) rfl rfl dX6_part_8 (pc' := 9) rfl ?_
  refine X.imul dX6_part_9 (pc' := 10) rfl ?_
  refine X.iadd dX6_part_10 (pc' := 11) rfl ?_
  refine X.iload_n (i := 2) rfl rfl dX6_part_11 (pc' := 12) rfl ?_
  refine X.iadd dX6_part_12 (pc' := 13) rfl ?_
  refine X.iald (x := mI h ((m + 1)) ((11 + (10 * n)) + w)) dX6_part_13 hS.2.2.1 (by omega) (by omega) ⟨by omega, by omega⟩ rfl (pc' := 14) rfl (fun r1 => ?_)
  obtain ⟨r1a, r1b⟩ := r1
  refine X.iret dX6_part_14 (Or.inl rfl) (Nat.le_of_ble_eq_true rfl) (Nat.le_of_ble_eq_true rfl) ?_
  subst hPR
  exact ⟨rfl, _, rfl, rfl⟩
set_option maxHeartbeats 4000000 in
set_option maxRecDepth 100000 in
theorem k_X6_thrown {Ω : xO} {h : xM} {m : Nat} (hS : MoS h m) : xCt Ω yX6_thrown cX6_thrown 1 (some .int) rm_X6_thrown [rf m] h (fun q h' => h = h' ∧ ∃ r, q = some (vi r) ∧ r = mI h m 3) xNo := by
  refine xCt_of (ini := false) (by decide +kernel) (Nat.le_of_ble_eq_true rfl) (fun q => absurd q (by decide)) ?_
  generalize hPR : (fun q h' => h = h' ∧ ∃ r, q = some (vi r) ∧ r = mI h m 3 : Option xV → xM → Prop) = PR
  have K0 : X Ω RX6 cX6_thrown 1 (some .int) false rm_X6_thrown PR xNo 0 0 0 [some (rf m)] [] h := ?_
  exact K0
  refine X.aload_n (i := 0) rfl rfl dX6_thrown_0 (pc' := 1) rfl ?_
  refine X.getI (x := mI h m 3) fk_X6_21 xcl_6 dX6_thrown_1 (by decide) hS.1 rfl (pc' := 4) rfl (fun r1 => ?_)
  obtain ⟨r1a, r1b⟩ := r1
  refine X.iret dX6_thrown_4 (Or.inl rfl) (Nat.le_of_ble_eq_true rfl) (Nat.le_of_ble_eq_true rfl) ?_
  subst hPR
  exact ⟨rfl, _, rfl, rfl⟩
set_option maxHeartbeats 4000000 in
set_option maxRecDepth 100000 in
theorem k_X6_isSeat {Ω : xO} {h : xM} {s : Int} (hs : inR s) : xCt Ω yX6_isSeat cX6_isSeat 1 (some .boolean) rm_X6_isSeat [vi s] h (fun q h' => h = h' ∧ ∃ r, q = some (vi r) ∧ (((0 ≤ s ∧ s < 6) ∧ r = 1) ∨ (¬ (0 ≤ s ∧ s < 6) ∧ r = 0))) xNo := by
  refine xCt_of (ini := false) (by decide +kernel) (Nat.le_of_ble_eq_true rfl) (fun q => absurd q (by decide)) ?_
  generalize hPR : (fun q h' => h = h' ∧ ∃ r, q = some (vi r) ∧ (((0 ≤ s ∧ s < 6) ∧ r = 1) ∨ (¬ (0 ≤ s ∧ s < 6) ∧ r = 0)) : Option xV → xM → Prop) = PR
  have K0 : X Ω RX6 cX6_isSeat 1 (some .boolean) false rm_X6_isSeat PR xNo 0 0 0 [some (vi s)] [] h := ?_
  exact K0
  obtain ⟨hs1, hs2⟩ := hs
  refine X.iload_n (i := 0) rfl rfl dX6_isSeat_0 (pc' := 1) rfl ?_
  refine X.iconst dX6_isSeat_1 (pc' := 2) rfl ?_
  refine X.iconst dX6_isSeat_2 (pc' := 3) rfl ?_
  refine X.callS (rm := rm_X6_in) (As := [vi s, vi 0, vi 5]) (st := []) dX6_isSeat_3 ck_X6_32 rfl rfl ⟨Nat.le_of_ble_eq_true rfl, Nat.le_of_ble_eq_true rfl⟩ (Nat.le_of_ble_eq_true rfl) (Nat.le_of_ble_eq_true rfl) (Nat.le_of_ble_eq_true rfl) (pc' := 6) rfl (k_X6_in ⟨by omega, by omega⟩ ⟨by omega, by omega⟩ ⟨by omega, by omega⟩) (fun q1 hq1 eq1 => ?_) (fun _ _ x1 => x1.elim)
  obtain ⟨rfl, r2, rfl, hr2⟩ := eq1
  refine X.iret dX6_isSeat_6 (Or.inr ⟨rfl, by omega⟩) (Nat.le_of_ble_eq_true rfl) (Nat.le_of_ble_eq_true rfl) ?_
  subst hPR
  exact ⟨rfl, _, rfl, by omega⟩
set_option maxHeartbeats 4000000 in
set_option maxRecDepth 100000 in
theorem k_X6_goes {Ω : xO} {h : xM} {m : Nat} {x y z : Int} (hS : MoS h m) (hx : x = 0 ∨ x = 1) (hy : y = 0 ∨ y = 1) (hz : z = 0 ∨ z = 1) : xCt Ω yX6_goes cX6_goes 4 (some .boolean) rm_X6_goes [rf m, vi x, vi y, vi z] h (fun q h' => h' = sI h m 3 (if x = 0 then 1 else if y = 0 then 2 else if z = 0 then 3 else 0) ∧ ∃ r, q = some (vi r) ∧ ((x = 1 ∧ y = 1 ∧ z = 1 ∧ r = 1) ∨ ((x = 0 ∨ y = 0 ∨ z = 0) ∧ r = 0))) xNo := by
  refine xCt_of (ini := false) (by decide +kernel) (Nat.le_of_ble_eq_true rfl) (fun q => absurd q (by decide)) ?_
  generalize hPR : (fun q h' => h' = sI h m 3 (if x = 0 then 1 else if y = 0 then 2 else if z = 0 then 3 else 0) ∧ ∃ r, q = some (vi r) ∧ ((x = 1 ∧ y = 1 ∧ z = 1 ∧ r = 1) ∨ ((x = 0 ∨ y = 0 ∨ z = 0) ∧ r = 0)) : Option xV → xM → Prop) = PR
  have K0 : X Ω RX6 cX6_goes 4 (some .boolean) false rm_X6_goes PR xNo 0 0 0 [some (rf m), some (vi x), some (vi y), some (vi z)] [] h := ?_
  exact K0
  refine X.aload_n (i := 0) rfl rfl dX6_goes_0 (pc' := 1) rfl ?_
  refine X.iload_n (i := 1) rfl rfl dX6_goes_1 (pc' := 2) rfl ?_
  refine X.if_ne (tgt := 9) dX6_goes_2 ⟨by omega, by omega⟩ (by decide) (pc' := 5) rfl (fun c2 => ?_) (fun c2 => ?_)
  · refine X.iload_n (i := 2) rfl rfl dX6_goes_9 (pc' := 10) rfl ?_
    refine X.if_ne (tgt := 17) dX6_goes_10 ⟨by omega, by omega⟩ (by decide) (pc' := 13) rfl (fun c10 => ?_) (fun c10 => ?_)
    · refine X.iload_n (i := 3) rfl rfl dX6_goes_17 (pc' := 18) rfl ?_
      refine X.if_ne (tgt := 25) dX6_goes_18 ⟨by omega, by omega⟩ (by decide) (pc' := 21) rfl (fun c18 => ?_) (fun c18 => ?_)
      · refine X.iconst dX6_goes_25 (pc' := 26) rfl ?_
        refine X.putI fk_X6_21 xcl_6 ⟨_, rfl, Or.inl rfl⟩ dX6_goes_26 (Or.inl rfl) ⟨by omega, by omega⟩ hS.1 (pc' := 29) rfl ?_
        refine X.genH (fun h1 hh1 => ?_)
        have wh1 : ∀ (w0 : Nat) (w1 : Int), mI h1 w0 w1 = if w0 = m ∧ w1 = 3 then 0 else mI h w0 w1 := fun _ _ => by rw [hh1]; rfl
        have S2 : MoS h1 m := by rw [hh1]; exact hS
        refine X.aload_n (i := 0) rfl rfl dX6_goes_29 (pc' := 30) rfl ?_
        refine X.getI (x := mI h1 m 3) fk_X6_21 xcl_6 dX6_goes_30 (by decide) S2.1 rfl (pc' := 33) rfl (fun r3 => ?_)
        obtain ⟨r3a, r3b⟩ := r3
        have hth : mI h1 m 3 = 0 := by rw [wh1, if_pos ⟨rfl, rfl⟩]
        refine X.if_ne (tgt := 40) dX6_goes_33 ⟨by omega, by omega⟩ (by decide) (pc' := 36) rfl (fun c33 => ?_) (fun c33 => ?_)
        · refine X.iconst dX6_goes_40 (pc' := 41) rfl ?_
          refine X.iret dX6_goes_41 (Or.inr ⟨rfl, by omega⟩) (Nat.le_of_ble_eq_true rfl) (Nat.le_of_ble_eq_true rfl) ?_
          subst hPR
          refine ⟨?_, _, rfl, by omega⟩
          rw [hh1]
          rw [if_neg (by omega), if_neg (by omega), if_neg (by omega)]; rfl
        · refine X.iconst dX6_goes_36 (pc' := 37) rfl ?_
          refine X.goto (tgt := 41) dX6_goes_37 (by decide) ?_
          refine X.iret dX6_goes_41 (Or.inr ⟨rfl, by omega⟩) (Nat.le_of_ble_eq_true rfl) (Nat.le_of_ble_eq_true rfl) ?_
          subst hPR
          refine ⟨?_, _, rfl, by omega⟩
          rw [hh1]
          rw [if_neg (by omega), if_neg (by omega), if_neg (by omega)]; rfl
      · refine X.iconst dX6_goes_21 (pc' := 22) rfl ?_
        refine X.goto (tgt := 26) dX6_goes_22 (by decide) ?_
        refine X.putI fk_X6_21 xcl_6 ⟨_, rfl, Or.inl rfl⟩ dX6_goes_26 (Or.inl rfl) ⟨by omega, by omega⟩ hS.1 (pc' := 29) rfl ?_
        refine X.genH (fun h4 hh4 => ?_)
        have wh4 : ∀ (w0 : Nat) (w1 : Int), mI h4 w0 w1 = if w0 = m ∧ w1 = 3 then 3 else mI h w0 w1 := fun _ _ => by rw [hh4]; rfl
        have S5 : MoS h4 m := by rw [hh4]; exact hS
        refine X.aload_n (i := 0) rfl rfl dX6_goes_29 (pc' := 30) rfl ?_
        refine X.getI (x := mI h4 m 3) fk_X6_21 xcl_6 dX6_goes_30 (by decide) S5.1 rfl (pc' := 33) rfl (fun r6 => ?_)
        obtain ⟨r6a, r6b⟩ := r6
        have hth : mI h4 m 3 = 3 := by rw [wh4, if_pos ⟨rfl, rfl⟩]
        refine X.if_ne (tgt := 40) dX6_goes_33 ⟨by omega, by omega⟩ (by decide) (pc' := 36) rfl (fun c33 => ?_) (fun c33 => ?_)
        · refine X.iconst dX6_goes_40 (pc' := 41) rfl ?_
          refine X.iret dX6_goes_41 (Or.inr ⟨rfl, by omega⟩) (Nat.le_of_ble_eq_true rfl) (Nat.le_of_ble_eq_true rfl) ?_
          subst hPR
          refine ⟨?_, _, rfl, by omega⟩
          rw [hh4]
          rw [if_neg (by omega), if_neg (by omega), if_pos (by omega)]; rfl
        · refine X.iconst dX6_goes_36 (pc' := 37) rfl ?_
          refine X.goto (tgt := 41) dX6_goes_37 (by decide) ?_
          refine X.iret dX6_goes_41 (Or.inr ⟨rfl, by omega⟩) (Nat.le_of_ble_eq_true rfl) (Nat.le_of_ble_eq_true rfl) ?_
          subst hPR
          refine ⟨?_, _, rfl, by omega⟩
          rw [hh4]
          rw [if_neg (by omega), if_neg (by omega), if_pos (by omega)]; rfl
    · refine X.iconst dX6_goes_13 (pc' := 14) rfl ?_
      refine X.goto (tgt := 26) dX6_goes_14 (by decide) ?_
      refine X.putI fk_X6_21 xcl_6 ⟨_, rfl, Or.inl rfl⟩ dX6_goes_26 (Or.inl rfl) ⟨by omega, by omega⟩ hS.1 (pc' := 29) rfl ?_
      refine X.genH (fun h7 hh7 => ?_)
      have wh7 : ∀ (w0 : Nat) (w1 : Int), mI h7 w0 w1 = if w0 = m ∧ w1 = 3 then 2 else mI h w0 w1 := fun _ _ => by rw [hh7]; rfl
      have S8 : MoS h7 m := by rw [hh7]; exact hS
      refine X.aload_n (i := 0) rfl rfl dX6_goes_29 (pc' := 30) rfl ?_
      refine X.getI (x := mI h7 m 3) fk_X6_21 xcl_6 dX6_goes_30 (by decide) S8.1 rfl (pc' := 33) rfl (fun r9 => ?_)
      obtain ⟨r9a, r9b⟩ := r9
      have hth : mI h7 m 3 = 2 := by rw [wh7, if_pos ⟨rfl, rfl⟩]
      refine X.if_ne (tgt := 40) dX6_goes_33 ⟨by omega, by omega⟩ (by decide) (pc' := 36) rfl (fun c33 => ?_) (fun c33 => ?_)
      · refine X.iconst dX6_goes_40 (pc' := 41) rfl ?_
        refine X.iret dX6_goes_41 (Or.inr ⟨rfl, by omega⟩) (Nat.le_of_ble_eq_true rfl) (Nat.le_of_ble_eq_true rfl) ?_
        subst hPR
        refine ⟨?_, _, rfl, by omega⟩
        rw [hh7]
        rw [if_neg (by omega), if_pos (by omega)]; rfl
      · refine X.iconst dX6_goes_36 (pc' := 37) rfl ?_
        refine X.goto (tgt := 41) dX6_goes_37 (by decide) ?_
        refine X.iret dX6_goes_41 (Or.inr ⟨rfl, by omega⟩) (Nat.le_of_ble_eq_true rfl) (Nat.le_of_ble_eq_true rfl) ?_
        subst hPR
        refine ⟨?_, _, rfl, by omega⟩
        rw [hh7]
        rw [if_neg (by omega), if_pos (by omega)]; rfl
  · refine X.iconst dX6_goes_5 (pc' := 6) rfl ?_
    refine X.goto (tgt := 26) dX6_goes_6 (by decide) ?_
    refine X.putI fk_X6_21 xcl_6 ⟨_, rfl, Or.inl rfl⟩ dX6_goes_26 (Or.inl rfl) ⟨by omega, by omega⟩ hS.1 (pc' := 29) rfl ?_
    refine X.genH (fun h10 hh10 => ?_)
    have wh10 : ∀ (w0 : Nat) (w1 : Int), mI h10 w0 w1 = if w0 = m ∧ w1 = 3 then 1 else mI h w0 w1 := fun _ _ => by rw [hh10]; rfl
    have S11 : MoS h10 m := by rw [hh10]; exact hS
    refine X.aload_n (i := 0) rfl rfl dX6_goes_29 (pc' := 30) rfl ?_
    refine X.getI (x := mI h10 m 3) fk_X6_21 xcl_6 dX6_goes_30 (by decide) S11.1 rfl (pc' := 33) rfl (fun r12 => ?_)
    obtain ⟨r12a, r12b⟩ := r12
    have hth : mI h10 m 3 = 1 := by rw [wh10, if_pos ⟨rfl, rfl⟩]
    refine X.if_ne (tgt := 40) dX6_goes_33 ⟨by omega, by omega⟩ (by decide) (pc' := 36) rfl (fun c33 => ?_) (fun c33 => ?_)
    · refine X.iconst dX6_goes_40 (pc' := 41) rfl ?_
      refine X.iret dX6_goes_41 (Or.inr ⟨rfl, by omega⟩) (Nat.le_of_ble_eq_true rfl) (Nat.le_of_ble_eq_true rfl) ?_
      subst hPR
      refine ⟨?_, _, rfl, by omega⟩
      rw [hh10]
      rw [if_pos (by omega)]; rfl
    · refine X.iconst dX6_goes_36 (pc' := 37) rfl ?_
      refine X.goto (tgt := 41) dX6_goes_37 (by decide) ?_
      refine X.iret dX6_goes_41 (Or.inr ⟨rfl, by omega⟩) (Nat.le_of_ble_eq_true rfl) (Nat.le_of_ble_eq_true rfl) ?_
      subst hPR
      refine ⟨?_, _, rfl, by omega⟩
      rw [hh10]
      rw [if_pos (by omega)]; rfl
set_option maxHeartbeats 4000000 in
set_option maxRecDepth 100000 in
theorem k_X6_canSpeak {Ω : xO} {h : xM} {m : Nat} {A : aS} (hS : MoS h m) (hM : RM h (m + 1) 0 A) (hA : aOK A) : xCt Ω yX6_canSpeak cX6_canSpeak 1 (some .boolean) rm_X6_canSpeak [rf m] h (fun q h' => h = h' ∧ ∃ r, q = some (vi r) ∧ (((aW A < 200 ∧ aB A < 400) ∧ r = 1) ∨ (¬ (aW A < 200 ∧ aB A < 400) ∧ r = 0))) xNo := by
  refine xCt_of (ini := false) (by decide +kernel) (Nat.le_of_ble_eq_true rfl) (fun q => absurd q (by decide)) ?_
  generalize hPR : (fun q h' => h = h' ∧ ∃ r, q = some (vi r) ∧ (((aW A < 200 ∧ aB A < 400) ∧ r = 1) ∨ (¬ (aW A < 200 ∧ aB A < 400) ∧ r = 0)) : Option xV → xM → Prop) = PR
  have K0 : X Ω RX6 cX6_canSpeak 1 (some .boolean) false rm_X6_canSpeak PR xNo 0 0 0 [some (rf m)] [] h := ?_
  exact K0
  obtain ⟨mSt, mB, mW, mWl, mWo, mCo, mHe⟩ := id hM
  obtain ⟨okB, okN, okWl, okS, okW, okM, okC, okH⟩ := id hA
  refine X.aload_n (i := 0) rfl rfl dX6_canSpeak_0 (pc' := 1) rfl ?_
  refine X.getR fk_X6_8 xcl_6 dX6_canSpeak_1 hS.1 hS.2.1 (pc' := 4) rfl ?_
  refine X.iconst dX6_canSpeak_4 (pc' := 5) rfl ?_
  refine X.iald (x := aW A) dX6_canSpeak_5 hS.2.2.1 (by omega) (by omega) ⟨by omega, by omega⟩ (mI_at mW (by omega)) (pc' := 6) rfl (fun r1 => ?_)
  obtain ⟨r1a, r1b⟩ := r1
  refine X.sipush (by decide +kernel) dX6_canSpeak_6 (pc' := 9) rfl ?_
  refine X.icmp_ge (tgt := 28) dX6_canSpeak_9 ⟨by omega, by omega⟩ ⟨by omega, by omega⟩ (by decide) (pc' := 12) rfl (fun c9 => ?_) (fun c9 => ?_)
  · refine X.iconst dX6_canSpeak_28 (pc' := 29) rfl ?_
    refine X.iret dX6_canSpeak_29 (Or.inr ⟨rfl, by omega⟩) (Nat.le_of_ble_eq_true rfl) (Nat.le_of_ble_eq_true rfl) ?_
    subst hPR
    exact ⟨rfl, _, rfl, by omega⟩
  · refine X.aload_n (i := 0) rfl rfl dX6_canSpeak_12 (pc' := 13) rfl ?_
    refine X.getR fk_X6_8 xcl_6 dX6_canSpeak_13 hS.1 hS.2.1 (pc' := 16) rfl ?_
    refine X.iconst dX6_canSpeak_16 (pc' := 17) rfl ?_
    refine X.iald (x := aB A) dX6_canSpeak_17 hS.2.2.1 (by omega) (by omega) ⟨by omega, by omega⟩ (mI_at mB (by omega)) (pc' := 18) rfl (fun r2 => ?_)
    obtain ⟨r2a, r2b⟩ := r2
    refine X.sipush (by decide +kernel) dX6_canSpeak_18 (pc' := 21) rfl ?_
    refine X.icmp_ge (tgt := 28) dX6_canSpeak_21 ⟨by omega, by omega⟩ ⟨by omega, by omega⟩ (by decide) (pc' := 24) rfl (fun c21 => ?_) (fun c21 => ?_)
    · refine X.iconst dX6_canSpeak_28 (pc' := 29) rfl ?_
      refine X.iret dX6_canSpeak_29 (Or.inr ⟨rfl, by omega⟩) (Nat.le_of_ble_eq_true rfl) (Nat.le_of_ble_eq_true rfl) ?_
      subst hPR
      exact ⟨rfl, _, rfl, by omega⟩
    · refine X.iconst dX6_canSpeak_24 (pc' := 25) rfl ?_
      refine X.goto (tgt := 29) dX6_canSpeak_25 (by decide) ?_
      refine X.iret dX6_canSpeak_29 (Or.inr ⟨rfl, by omega⟩) (Nat.le_of_ble_eq_true rfl) (Nat.le_of_ble_eq_true rfl) ?_
      subst hPR
      exact ⟨rfl, _, rfl, by omega⟩
set_option maxHeartbeats 4000000 in
set_option maxRecDepth 100000 in
theorem k_X6_delay {Ω : xO} {h : xM} {m : Nat} {A : aS} {x y : Int} (hS : MoS h m) (hM : RM h (m + 1) 0 A) (hA : aOK A) (hx : 0 ≤ x ∧ x < 6) (hy : 0 ≤ y ∧ y < 6) : xCt Ω yX6_delay cX6_delay 6 (some .int) rm_X6_delay [rf m, vi x, vi y] h (fun q h' => h = h' ∧ ∃ r, q = some (vi r) ∧ r = dly A x y) xNo := by
  refine xCt_of (ini := false) (by decide +kernel) (Nat.le_of_ble_eq_true rfl) (fun q => absurd q (by decide)) ?_
  generalize hPR : (fun q h' => h = h' ∧ ∃ r, q = some (vi r) ∧ r = dly A x y : Option xV → xM → Prop) = PR
  have K0 : X Ω RX6 cX6_delay 6 (some .int) false rm_X6_delay PR xNo 0 0 0 [some (rf m), some (vi x), some (vi y), none, none, none] [] h := ?_
  exact K0
  obtain ⟨mSt, mB, mW, mWl, mWo, mCo, mHe⟩ := id hM
  obtain ⟨okB, okN, okWl, okS, okW, okM, okC, okH⟩ := id hA
  refine X.iload_n (i := 1) rfl rfl dX6_delay_0 (pc' := 1) rfl ?_
  refine X.iload_n (i := 2) rfl rfl dX6_delay_1 (pc' := 2) rfl ?_
  refine X.callS (rm := rm_X6_apart) (As := [vi x, vi y]) (st := []) dX6_delay_2 ck_X6_36 rfl rfl ⟨Nat.le_of_ble_eq_true rfl, Nat.le_of_ble_eq_true rfl⟩ (Nat.le_of_ble_eq_true rfl) (Nat.le_of_ble_eq_true rfl) (Nat.le_of_ble_eq_true rfl) (pc' := 5) rfl (k_X6_apart hx hy) (fun q1 hq1 eq1 => ?_) (fun _ _ x1 => x1.elim)
  obtain ⟨rfl, d, rfl, hd⟩ := eq1
  have hdr : 0 ≤ d ∧ d ≤ 3 := by unfold dist at hd; omega
  refine X.istore_n (i := 3) (ls' := [some (rf m), some (vi x), some (vi y), some (vi d), none, none]) (hi := rfl) (hd := dX6_delay_5) (by decide) rfl rfl (pc' := 6) rfl ?_
  refine X.aload_n (i := 0) rfl rfl dX6_delay_6 (pc' := 7) rfl ?_
  refine X.getR fk_X6_8 xcl_6 dX6_delay_7 hS.1 hS.2.1 (pc' := 10) rfl ?_
  refine X.iconst dX6_delay_10 (pc' := 11) rfl ?_
  refine X.iload_n (i := 2) rfl rfl dX6_delay_11 (pc' := 12) rfl ?_
  refine X.iadd dX6_delay_12 (pc' := 13) rfl ?_
  refine X.iald (x := aWl A y) dX6_delay_13 hS.2.2.1 (by omega) (by omega) ⟨by omega, by omega⟩ (mI_at (mWl y (by omega) (by omega)) (by omega)) (pc' := 14) rfl (fun r2 => ?_)
  obtain ⟨r2a, r2b⟩ := r2
  have r2c := okWl y (by omega) (by omega)
  refine X.gen (fun kd hkd => ?_)
  refine X.istore (i := 4) (ls' := [some (rf m), some (vi x), some (vi y), some (vi d), some (vi kd), none]) (hd := dX6_delay_14) (by decide) rfl rfl (pc' := 16) rfl ?_
  refine X.aload_n (i := 0) rfl rfl dX6_delay_16 (pc' := 17) rfl ?_
  refine X.getR fk_X6_8 xcl_6 dX6_delay_17 hS.1 hS.2.1 (pc' := 20) rfl ?_
  refine X.iconst dX6_delay_20 (pc' := 21) rfl ?_
  refine X.iald (x := aSt A 0) dX6_delay_21 hS.2.2.1 (by omega) (by omega) ⟨by omega, by omega⟩ (mI_at (mSt 0 (by omega) (by omega)) (by omega)) (pc' := 22) rfl (fun r3 => ?_)
  obtain ⟨r3a, r3b⟩ := r3
  refine X.aload_n (i := 0) rfl rfl dX6_delay_22 (pc' := 23) rfl ?_
  refine X.getR fk_X6_8 xcl_6 dX6_delay_23 hS.1 hS.2.1 (pc' := 26) rfl ?_
  refine X.iconst dX6_delay_26 (pc' := 27) rfl ?_
  refine X.iald (x := aSt A 1) dX6_delay_27 hS.2.2.1 (by omega) (by omega) ⟨by omega, by omega⟩ (mI_at (mSt 1 (by omega) (by omega)) (by omega)) (pc' := 28) rfl (fun r4 => ?_)
  obtain ⟨r4a, r4b⟩ := r4
  refine X.iload_n (i := 3) rfl rfl dX6_delay_28 (pc' := 29) rfl ?_
  refine X.imul dX6_delay_29 (pc' := 30) rfl ?_
  refine X.iadd dX6_delay_30 (pc' := 31) rfl ?_
  refine X.gen (fun del hdel => ?_)
  refine X.istore (i := 5) (ls' := [some (rf m), some (vi x), some (vi y), some (vi d), some (vi kd), some (vi del)]) (hd := dX6_delay_31) (by decide) rfl rfl (pc' := 33) rfl ?_
  refine X.iload (i := 4) rfl dX6_delay_33 (pc' := 35) rfl ?_
  refine X.iconst dX6_delay_35 (pc' := 36) rfl ?_
  refine X.icmp_ne (tgt := 44) dX6_delay_36 ⟨by omega, by omega⟩ ⟨by omega, by omega⟩ (by decide) (pc' := 39) rfl (fun c36 => ?_) (fun c36 => ?_)
  · refine X.iload (i := 4) rfl dX6_delay_44 (pc' := 46) rfl ?_
    refine X.iconst dX6_delay_46 (pc' := 47) rfl ?_
    refine X.icmp_ne (tgt := 59) dX6_delay_47 ⟨by omega, by omega⟩ ⟨by omega, by omega⟩ (by decide) (pc' := 50) rfl (fun c47 => ?_) (fun c47 => ?_)
    · refine X.iload (i := 4) rfl dX6_delay_59 (pc' := 61) rfl ?_
      refine X.iconst dX6_delay_61 (pc' := 62) rfl ?_
      refine X.icmp_ne (tgt := 72) dX6_delay_62 ⟨by omega, by omega⟩ ⟨by omega, by omega⟩ (by decide) (pc' := 65) rfl (fun c62 => ?_) (fun c62 => ?_)
      · refine X.iload (i := 5) rfl dX6_delay_72 (pc' := 74) rfl ?_
        refine X.iret dX6_delay_74 (Or.inl rfl) (Nat.le_of_ble_eq_true rfl) (Nat.le_of_ble_eq_true rfl) ?_
        subst hPR
        refine ⟨rfl, _, rfl, ?_⟩
        unfold dly
        rw [← hd]
        split <;> (try split) <;> omega
      · refine X.iload (i := 5) rfl dX6_delay_65 (pc' := 67) rfl ?_
        refine X.iconst dX6_delay_67 (pc' := 68) rfl ?_
        refine X.iadd dX6_delay_68 (pc' := 69) rfl ?_
        refine X.goto (tgt := 74) dX6_delay_69 (by decide) ?_
        refine X.iret dX6_delay_74 (Or.inl rfl) (Nat.le_of_ble_eq_true rfl) (Nat.le_of_ble_eq_true rfl) ?_
        subst hPR
        refine ⟨rfl, _, rfl, ?_⟩
        unfold dly
        rw [← hd]
        split <;> (try split) <;> omega
    · refine X.iload_n (i := 3) rfl rfl dX6_delay_50 (pc' := 51) rfl ?_
      refine X.iconst dX6_delay_51 (pc' := 52) rfl ?_
      refine X.icmp_ne (tgt := 59) dX6_delay_52 ⟨by omega, by omega⟩ ⟨by omega, by omega⟩ (by decide) (pc' := 55) rfl (fun c52 => ?_) (fun c52 => ?_)
      · refine X.iload (i := 4) rfl dX6_delay_59 (pc' := 61) rfl ?_
        refine X.iconst dX6_delay_61 (pc' := 62) rfl ?_
        refine X.icmp_ne (tgt := 72) dX6_delay_62 ⟨by omega, by omega⟩ ⟨by omega, by omega⟩ (by decide) (pc' := 65) rfl (fun c62 => ?_) (fun c62 => ?_)
        · refine X.iload (i := 5) rfl dX6_delay_72 (pc' := 74) rfl ?_
          refine X.iret dX6_delay_74 (Or.inl rfl) (Nat.le_of_ble_eq_true rfl) (Nat.le_of_ble_eq_true rfl) ?_
          subst hPR
          refine ⟨rfl, _, rfl, ?_⟩
          unfold dly
          rw [← hd]
          split <;> (try split) <;> omega
        · refine X.iload (i := 5) rfl dX6_delay_65 (pc' := 67) rfl ?_
          refine X.iconst dX6_delay_67 (pc' := 68) rfl ?_
          refine X.iadd dX6_delay_68 (pc' := 69) rfl ?_
          refine X.goto (tgt := 74) dX6_delay_69 (by decide) ?_
          refine X.iret dX6_delay_74 (Or.inl rfl) (Nat.le_of_ble_eq_true rfl) (Nat.le_of_ble_eq_true rfl) ?_
          subst hPR
          refine ⟨rfl, _, rfl, ?_⟩
          unfold dly
          rw [← hd]
          split <;> (try split) <;> omega
      · refine X.iconst dX6_delay_55 (pc' := 56) rfl ?_
        refine X.goto (tgt := 74) dX6_delay_56 (by decide) ?_
        refine X.iret dX6_delay_74 (Or.inl rfl) (Nat.le_of_ble_eq_true rfl) (Nat.le_of_ble_eq_true rfl) ?_
        subst hPR
        refine ⟨rfl, _, rfl, ?_⟩
        unfold dly
        rw [← hd]
        split <;> (try split) <;> omega
  · refine X.iload_n (i := 3) rfl rfl dX6_delay_39 (pc' := 40) rfl ?_
    refine X.iconst dX6_delay_40 (pc' := 41) rfl ?_
    refine X.icmp_eq (tgt := 55) dX6_delay_41 ⟨by omega, by omega⟩ ⟨by omega, by omega⟩ (by decide) (pc' := 44) rfl (fun c41 => ?_) (fun c41 => ?_)
    · refine X.iconst dX6_delay_55 (pc' := 56) rfl ?_
      refine X.goto (tgt := 74) dX6_delay_56 (by decide) ?_
      refine X.iret dX6_delay_74 (Or.inl rfl) (Nat.le_of_ble_eq_true rfl) (Nat.le_of_ble_eq_true rfl) ?_
      subst hPR
      refine ⟨rfl, _, rfl, ?_⟩
      unfold dly
      rw [← hd]
      split <;> (try split) <;> omega
    · refine X.iload (i := 4) rfl dX6_delay_44 (pc' := 46) rfl ?_
      refine X.iconst dX6_delay_46 (pc' := 47) rfl ?_
      refine X.icmp_ne (tgt := 59) dX6_delay_47 ⟨by omega, by omega⟩ ⟨by omega, by omega⟩ (by decide) (pc' := 50) rfl (fun c47 => ?_) (fun c47 => ?_)
      · refine X.iload (i := 4) rfl dX6_delay_59 (pc' := 61) rfl ?_
        refine X.iconst dX6_delay_61 (pc' := 62) rfl ?_
        refine X.icmp_ne (tgt := 72) dX6_delay_62 ⟨by omega, by omega⟩ ⟨by omega, by omega⟩ (by decide) (pc' := 65) rfl (fun c62 => ?_) (fun c62 => ?_)
        · refine X.iload (i := 5) rfl dX6_delay_72 (pc' := 74) rfl ?_
          refine X.iret dX6_delay_74 (Or.inl rfl) (Nat.le_of_ble_eq_true rfl) (Nat.le_of_ble_eq_true rfl) ?_
          subst hPR
          refine ⟨rfl, _, rfl, ?_⟩
          unfold dly
          rw [← hd]
          split <;> (try split) <;> omega
        · refine X.iload (i := 5) rfl dX6_delay_65 (pc' := 67) rfl ?_
          refine X.iconst dX6_delay_67 (pc' := 68) rfl ?_
          refine X.iadd dX6_delay_68 (pc' := 69) rfl ?_
          refine X.goto (tgt := 74) dX6_delay_69 (by decide) ?_
          refine X.iret dX6_delay_74 (Or.inl rfl) (Nat.le_of_ble_eq_true rfl) (Nat.le_of_ble_eq_true rfl) ?_
          subst hPR
          refine ⟨rfl, _, rfl, ?_⟩
          unfold dly
          rw [← hd]
          split <;> (try split) <;> omega
      · refine X.iload_n (i := 3) rfl rfl dX6_delay_50 (pc' := 51) rfl ?_
        refine X.iconst dX6_delay_51 (pc' := 52) rfl ?_
        refine X.icmp_ne (tgt := 59) dX6_delay_52 ⟨by omega, by omega⟩ ⟨by omega, by omega⟩ (by decide) (pc' := 55) rfl (fun c52 => ?_) (fun c52 => ?_)
        · refine X.iload (i := 4) rfl dX6_delay_59 (pc' := 61) rfl ?_
          refine X.iconst dX6_delay_61 (pc' := 62) rfl ?_
          refine X.icmp_ne (tgt := 72) dX6_delay_62 ⟨by omega, by omega⟩ ⟨by omega, by omega⟩ (by decide) (pc' := 65) rfl (fun c62 => ?_) (fun c62 => ?_)
          · refine X.iload (i := 5) rfl dX6_delay_72 (pc' := 74) rfl ?_
            refine X.iret dX6_delay_74 (Or.inl rfl) (Nat.le_of_ble_eq_true rfl) (Nat.le_of_ble_eq_true rfl) ?_
            subst hPR
            refine ⟨rfl, _, rfl, ?_⟩
            unfold dly
            rw [← hd]
            split <;> (try split) <;> omega
          · refine X.iload (i := 5) rfl dX6_delay_65 (pc' := 67) rfl ?_
            refine X.iconst dX6_delay_67 (pc' := 68) rfl ?_
            refine X.iadd dX6_delay_68 (pc' := 69) rfl ?_
            refine X.goto (tgt := 74) dX6_delay_69 (by decide) ?_
            refine X.iret dX6_delay_74 (Or.inl rfl) (Nat.le_of_ble_eq_true rfl) (Nat.le_of_ble_eq_true rfl) ?_
            subst hPR
            refine ⟨rfl, _, rfl, ?_⟩
            unfold dly
            rw [← hd]
            split <;> (try split) <;> omega
        · refine X.iconst dX6_delay_55 (pc' := 56) rfl ?_
          refine X.goto (tgt := 74) dX6_delay_56 (by decide) ?_
          refine X.iret dX6_delay_74 (Or.inl rfl) (Nat.le_of_ble_eq_true rfl) (Nat.le_of_ble_eq_true rfl) ?_
          subst hPR
          refine ⟨rfl, _, rfl, ?_⟩
          unfold dly
          rw [← hd]
          split <;> (try split) <;> omega
set_option maxHeartbeats 4000000 in
set_option maxRecDepth 100000 in
theorem k_X6_voice {Ω : xO} {h : xM} {m : Nat} {A : aS} {s t : Int} (hS : MoS h m) (hM : RM h (m + 1) 0 A) (hA : aOK A) (hs : 0 ≤ s ∧ s < 6) (ht : 0 ≤ t ∧ t ≤ 1000) : xCt Ω yX6_voice cX6_voice 9 (some .int) rm_X6_voice [rf m, vi s, vi t] h (fun q h' => h = h' ∧ ∃ r, q = some (vi r) ∧ r = vce A s t) xNo := by
  refine xCt_of (ini := false) (by decide +kernel) (Nat.le_of_ble_eq_true rfl) (fun q => absurd q (by decide)) ?_
  generalize hPR : (fun q h' => h = h' ∧ ∃ r, q = some (vi r) ∧ r = vce A s t : Option xV → xM → Prop) = PR
  have K0 : X Ω RX6 cX6_voice 9 (some .int) false rm_X6_voice PR xNo 0 0 0 [some (rf m), some (vi s), some (vi t), none, none, none, none, none, none] [] h := ?_
  exact K0
  obtain ⟨mSt, mB, mW, mWl, mWo, mCo, mHe⟩ := id hM
  obtain ⟨okB, okN, okWl, okS, okW, okM, okC, okH⟩ := id hA
  refine X.iconst dX6_voice_0 (pc' := 1) rfl ?_
  refine X.istore_n (i := 3) (ls' := [some (rf m), some (vi s), some (vi t), some (vi ((-1))), none, none, none, none, none]) (hi := rfl) (hd := dX6_voice_1) (by decide) rfl rfl (pc' := 2) rfl ?_
  refine X.iconst dX6_voice_2 (pc' := 3) rfl ?_
  refine X.istore (i := 4) (ls' := [some (rf m), some (vi s), some (vi t), some (vi ((-1))), some (vi ((-1))), none, none, none, none]) (hd := dX6_voice_3) (by decide) rfl rfl (pc' := 5) rfl ?_
  refine X.iconst dX6_voice_5 (pc' := 6) rfl ?_
  refine X.istore (i := 5) (ls' := [some (rf m), some (vi s), some (vi t), some (vi ((-1))), some (vi ((-1))), some (vi ((-1))), none, none, none]) (hd := dX6_voice_6) (by decide) rfl rfl (pc' := 8) rfl ?_
  refine X.iconst dX6_voice_8 (pc' := 9) rfl ?_
  refine X.istore (i := 6) (ls' := [some (rf m), some (vi s), some (vi t), some (vi ((-1))), some (vi ((-1))), some (vi ((-1))), some (vi ((-1))), none, none]) (hd := dX6_voice_9) (by decide) rfl rfl (pc' := 11) rfl ?_
  refine X.iconst dX6_voice_11 (pc' := 12) rfl ?_
  refine X.istore (i := 7) (ls' := [some (rf m), some (vi s), some (vi t), some (vi ((-1))), some (vi ((-1))), some (vi ((-1))), some (vi ((-1))), some (vi 0), none]) (hd := dX6_voice_12) (by decide) rfl rfl (pc' := 14) rfl ?_
  have L14 : ∀ (n14 : Nat) (l : Int) (r : Int) (la : Int) (ra : Int) (k : Int), (aW A - k).toNat < n14 → (0 ≤ k ∧ k ≤ aW A ∧ l = (vFo (aCo A s) (aSt A 2) t k.toNat).1 ∧ r = (vFo (aCo A s) (aSt A 2) t k.toNat).2 ∧ (0 ≤ l → la = aCo A s l) ∧ (0 ≤ r → ra = aCo A s r)) → X Ω RX6 cX6_voice 9 (some .int) false rm_X6_voice PR xNo 0 0 14 [some (rf m), some (vi s), some (vi t), some (vi l), some (vi r), some (vi la), some (vi ra), some (vi k), none] [] h := by
    intro n14
    induction n14 with
    | zero => intro l r la ra k hm _; exfalso; omega
    | succ n14 ih14 =>
      intro l r la ra k hm14 hinv
      obtain ⟨hk0, hkn, hl, hr, hla, hra⟩ := hinv
      have hbn := (vFo_T2 (aCo A s) (aSt A 2) t k.toNat).bnd
      rw [← hl, ← hr] at hbn
      have hlr : l = -1 ∨ (0 ≤ l ∧ l < k) := by
        rcases hbn.1.2 with e | e
        · exact Or.inl e
        · have := e.1; omega
      have hrr : r = -1 ∨ (0 ≤ r ∧ r < k) := by
        rcases hbn.2.2 with e | e
        · exact Or.inl e
        · have := e.1; omega
      have hlb : 0 ≤ l → -1 ≤ la ∧ la ≤ 1000 := fun z => by
        have z1 := hla z
        have z2 := okC s l (by omega) (by omega) (by omega) (by omega)
        have z3 := okW l (by omega) (by omega)
        omega
      have hrb : 0 ≤ r → -1 ≤ ra ∧ ra ≤ 1000 := fun z => by
        have z1 := hra z
        have z2 := okC s r (by omega) (by omega) (by omega) (by omega)
        have z3 := okW r (by omega) (by omega)
        omega
      refine X.iload (i := 7) rfl dX6_voice_14 (pc' := 16) rfl ?_
      refine X.aload_n (i := 0) rfl rfl dX6_voice_16 (pc' := 17) rfl ?_
      refine X.getR fk_X6_8 xcl_6 dX6_voice_17 hS.1 hS.2.1 (pc' := 20) rfl ?_
      refine X.iconst dX6_voice_20 (pc' := 21) rfl ?_
      refine X.iald (x := aW A) dX6_voice_21 hS.2.2.1 (by omega) (by omega) ⟨by omega, by omega⟩ (mI_at mW (by omega)) (pc' := 22) rfl (fun r1 => ?_)
      obtain ⟨r1a, r1b⟩ := r1
      refine X.icmp_ge (tgt := 114) dX6_voice_22 ⟨by omega, by omega⟩ ⟨by omega, by omega⟩ (by decide) (pc' := 25) rfl (fun c22 => ?_) (fun c22 => ?_)
      · refine X.iload (i := 4) rfl dX6_voice_114 (pc' := 116) rfl ?_
        refine X.iret dX6_voice_116 (Or.inl rfl) (Nat.le_of_ble_eq_true rfl) (Nat.le_of_ble_eq_true rfl) ?_
        subst hPR
        have e : k = aW A := by omega
        subst e
        exact ⟨rfl, _, rfl, hr⟩
      · refine X.aload_n (i := 0) rfl rfl dX6_voice_25 (pc' := 26) rfl ?_
        refine X.iload (i := 7) rfl dX6_voice_26 (pc' := 28) rfl ?_
        refine X.iconst dX6_voice_28 (pc' := 29) rfl ?_
        refine X.iload_n (i := 1) rfl rfl dX6_voice_29 (pc' := 30) rfl ?_
        refine X.iadd dX6_voice_30 (pc' := 31) rfl ?_
        refine X.callV (ci := 6) (a := m) (rm := rm_X6_part) (As := [vi k, vi (4 + s)]) (st := []) dX6_voice_31 ck_X6_40 rfl (by decide) hS.1 rfl rfl ⟨Nat.le_of_ble_eq_true rfl, Nat.le_of_ble_eq_true rfl⟩ (Nat.le_of_ble_eq_true rfl) (Nat.le_of_ble_eq_true rfl) (Nat.le_of_ble_eq_true rfl) (pc' := 34) rfl (k_X6_part hS (by omega) (by omega)) (fun q2 hq2 eq2 => ?_) (fun _ _ x1 => x1.elim)
        obtain ⟨rfl, co, rfl, hco⟩ := eq2
        have hco2 : co = aCo A s k := by rw [hco]; exact mI_at (mCo s k (by omega) (by omega) (by omega) (by omega)) (by omega)
        have okc1 := okC s k (by omega) (by omega) (by omega) (by omega)
        have okc2 := okW k (by omega) (by omega)
        refine X.istore (i := 8) (ls' := [some (rf m), some (vi s), some (vi t), some (vi l), some (vi r), some (vi la), some (vi ra), some (vi k), some (vi co)]) (hd := dX6_voice_34) (by decide) rfl rfl (pc' := 36) rfl ?_
        refine X.iload (i := 8) rfl dX6_voice_36 (pc' := 38) rfl ?_
        refine X.if_lt (tgt := 108) dX6_voice_38 ⟨by omega, by omega⟩ (by decide) (pc' := 41) rfl (fun c38 => ?_) (fun c38 => ?_)
        · refine X.iinc (i := 7) (ls' := [some (rf m), some (vi s), some (vi t), some (vi l), some (vi r), some (vi la), some (vi ra), some (vi (k + 1)), some (vi co)]) dX6_voice_108 rfl (by decide) rfl rfl (pc' := 111) rfl ?_
          refine X.goto (tgt := 14) dX6_voice_111 (by decide) ?_
          refine X.mask (bs := [true, true, true, true, true, true, true, true, false]) (ls' := [some (rf m), some (vi s), some (vi t), some (vi l), some (vi r), some (vi la), some (vi ra), some (vi (k + 1)), none]) rfl ?_
          refine ih14 l r la ra (k + 1) (by omega) ?_
          have hat := vFo_at (f := aCo A s) (m := aSt A 2) (t := t) hk0
          unfold vSt at hat
          rw [← hl, ← hr, ← hco2] at hat
          rw [if_neg (by omega)] at hat
          exact ⟨by omega, by omega, by rw [hat]; exact hl, by rw [hat]; exact hr, hla, hra⟩
        · refine X.iload (i := 8) rfl dX6_voice_41 (pc' := 43) rfl ?_
          refine X.iload_n (i := 2) rfl rfl dX6_voice_43 (pc' := 44) rfl ?_
          refine X.icmp_gt (tgt := 108) dX6_voice_44 ⟨by omega, by omega⟩ ⟨by omega, by omega⟩ (by decide) (pc' := 47) rfl (fun c44 => ?_) (fun c44 => ?_)
          · refine X.iinc (i := 7) (ls' := [some (rf m), some (vi s), some (vi t), some (vi l), some (vi r), some (vi la), some (vi ra), some (vi (k + 1)), some (vi co)]) dX6_voice_108 rfl (by decide) rfl rfl (pc' := 111) rfl ?_
            refine X.goto (tgt := 14) dX6_voice_111 (by decide) ?_
            refine X.mask (bs := [true, true, true, true, true, true, true, true, false]) (ls' := [some (rf m), some (vi s), some (vi t), some (vi l), some (vi r), some (vi la), some (vi ra), some (vi (k + 1)), none]) rfl ?_
            refine ih14 l r la ra (k + 1) (by omega) ?_
            have hat := vFo_at (f := aCo A s) (m := aSt A 2) (t := t) hk0
            unfold vSt at hat
            rw [← hl, ← hr, ← hco2] at hat
            rw [if_neg (by omega)] at hat
            exact ⟨by omega, by omega, by rw [hat]; exact hl, by rw [hat]; exact hr, hla, hra⟩
          · refine X.iload_n (i := 2) rfl rfl dX6_voice_47 (pc' := 48) rfl ?_
            refine X.iload (i := 8) rfl dX6_voice_48 (pc' := 50) rfl ?_
            refine X.isub dX6_voice_50 (pc' := 51) rfl ?_
            refine X.aload_n (i := 0) rfl rfl dX6_voice_51 (pc' := 52) rfl ?_
            refine X.getR fk_X6_8 xcl_6 dX6_voice_52 hS.1 hS.2.1 (pc' := 55) rfl ?_
            refine X.iconst dX6_voice_55 (pc' := 56) rfl ?_
            refine X.iald (x := aSt A 2) dX6_voice_56 hS.2.2.1 (by omega) (by omega) ⟨by omega, by omega⟩ (mI_at (mSt 2 (by omega) (by omega)) (by omega)) (pc' := 57) rfl (fun r3 => ?_)
            obtain ⟨r3a, r3b⟩ := r3
            refine X.icmp_gt (tgt := 108) dX6_voice_57 ⟨by omega, by omega⟩ ⟨by omega, by omega⟩ (by decide) (pc' := 60) rfl (fun c57 => ?_) (fun c57 => ?_)
            · refine X.iinc (i := 7) (ls' := [some (rf m), some (vi s), some (vi t), some (vi l), some (vi r), some (vi la), some (vi ra), some (vi (k + 1)), some (vi co)]) dX6_voice_108 rfl (by decide) rfl rfl (pc' := 111) rfl ?_
              refine X.goto (tgt := 14) dX6_voice_111 (by decide) ?_
              refine X.mask (bs := [true, true, true, true, true, true, true, true, false]) (ls' := [some (rf m), some (vi s), some (vi t), some (vi l), some (vi r), some (vi la), some (vi ra), some (vi (k + 1)), none]) rfl ?_
              refine ih14 l r la ra (k + 1) (by omega) ?_
              have hat := vFo_at (f := aCo A s) (m := aSt A 2) (t := t) hk0
              unfold vSt at hat
              rw [← hl, ← hr, ← hco2] at hat
              rw [if_neg (by omega)] at hat
              exact ⟨by omega, by omega, by rw [hat]; exact hl, by rw [hat]; exact hr, hla, hra⟩
            · refine X.iload_n (i := 3) rfl rfl dX6_voice_60 (pc' := 61) rfl ?_
              refine X.if_lt (tgt := 71) dX6_voice_61 ⟨by omega, by omega⟩ (by decide) (pc' := 64) rfl (fun c61 => ?_) (fun c61 => ?_)
              · refine X.iload_n (i := 3) rfl rfl dX6_voice_71 (pc' := 72) rfl ?_
                refine X.istore (i := 4) (ls' := [some (rf m), some (vi s), some (vi t), some (vi l), some (vi l), some (vi la), some (vi ra), some (vi k), some (vi co)]) (hd := dX6_voice_72) (by decide) rfl rfl (pc' := 74) rfl ?_
                refine X.iload (i := 5) rfl dX6_voice_74 (pc' := 76) rfl ?_
                refine X.istore (i := 6) (ls' := [some (rf m), some (vi s), some (vi t), some (vi l), some (vi l), some (vi la), some (vi la), some (vi k), some (vi co)]) (hd := dX6_voice_76) (by decide) rfl rfl (pc' := 78) rfl ?_
                refine X.iload (i := 7) rfl dX6_voice_78 (pc' := 80) rfl ?_
                refine X.istore_n (i := 3) (ls' := [some (rf m), some (vi s), some (vi t), some (vi k), some (vi l), some (vi la), some (vi la), some (vi k), some (vi co)]) (hi := rfl) (hd := dX6_voice_80) (by decide) rfl rfl (pc' := 81) rfl ?_
                refine X.iload (i := 8) rfl dX6_voice_81 (pc' := 83) rfl ?_
                refine X.istore (i := 5) (ls' := [some (rf m), some (vi s), some (vi t), some (vi k), some (vi l), some (vi co), some (vi la), some (vi k), some (vi co)]) (hd := dX6_voice_83) (by decide) rfl rfl (pc' := 85) rfl ?_
                refine X.goto (tgt := 108) dX6_voice_85 (by decide) ?_
                refine X.iinc (i := 7) (ls' := [some (rf m), some (vi s), some (vi t), some (vi k), some (vi l), some (vi co), some (vi la), some (vi (k + 1)), some (vi co)]) dX6_voice_108 rfl (by decide) rfl rfl (pc' := 111) rfl ?_
                refine X.goto (tgt := 14) dX6_voice_111 (by decide) ?_
                refine X.mask (bs := [true, true, true, true, true, true, true, true, false]) (ls' := [some (rf m), some (vi s), some (vi t), some (vi k), some (vi l), some (vi co), some (vi la), some (vi (k + 1)), none]) rfl ?_
                refine ih14 k l co la (k + 1) (by omega) ?_
                have hat := vFo_at (f := aCo A s) (m := aSt A 2) (t := t) hk0
                unfold vSt at hat
                rw [← hl, ← hr, ← hco2] at hat
                rw [if_pos (by omega), if_pos (by omega)] at hat
                rw [hat]
                exact ⟨by omega, by omega, rfl, rfl, fun _ => hco2, fun z => hla z⟩
              · refine X.iload (i := 8) rfl dX6_voice_64 (pc' := 66) rfl ?_
                refine X.iload (i := 5) rfl dX6_voice_66 (pc' := 68) rfl ?_
                refine X.icmp_lt (tgt := 88) dX6_voice_68 ⟨by omega, by omega⟩ ⟨by omega, by omega⟩ (by decide) (pc' := 71) rfl (fun c68 => ?_) (fun c68 => ?_)
                · refine X.iload (i := 4) rfl dX6_voice_88 (pc' := 90) rfl ?_
                  refine X.if_lt (tgt := 100) dX6_voice_90 ⟨by omega, by omega⟩ (by decide) (pc' := 93) rfl (fun c90 => ?_) (fun c90 => ?_)
                  · refine X.iload (i := 7) rfl dX6_voice_100 (pc' := 102) rfl ?_
                    refine X.istore (i := 4) (ls' := [some (rf m), some (vi s), some (vi t), some (vi l), some (vi k), some (vi la), some (vi ra), some (vi k), some (vi co)]) (hd := dX6_voice_102) (by decide) rfl rfl (pc' := 104) rfl ?_
                    refine X.iload (i := 8) rfl dX6_voice_104 (pc' := 106) rfl ?_
                    refine X.istore (i := 6) (ls' := [some (rf m), some (vi s), some (vi t), some (vi l), some (vi k), some (vi la), some (vi co), some (vi k), some (vi co)]) (hd := dX6_voice_106) (by decide) rfl rfl (pc' := 108) rfl ?_
                    refine X.iinc (i := 7) (ls' := [some (rf m), some (vi s), some (vi t), some (vi l), some (vi k), some (vi la), some (vi co), some (vi (k + 1)), some (vi co)]) dX6_voice_108 rfl (by decide) rfl rfl (pc' := 111) rfl ?_
                    refine X.goto (tgt := 14) dX6_voice_111 (by decide) ?_
                    refine X.mask (bs := [true, true, true, true, true, true, true, true, false]) (ls' := [some (rf m), some (vi s), some (vi t), some (vi l), some (vi k), some (vi la), some (vi co), some (vi (k + 1)), none]) rfl ?_
                    refine ih14 l k la co (k + 1) (by omega) ?_
                    have hat := vFo_at (f := aCo A s) (m := aSt A 2) (t := t) hk0
                    unfold vSt at hat
                    rw [← hl, ← hr, ← hco2] at hat
                    rw [if_pos (by omega), if_neg (by omega), if_pos (by omega)] at hat
                    rw [hat]
                    exact ⟨by omega, by omega, rfl, rfl, hla, fun _ => hco2⟩
                  · refine X.iload (i := 8) rfl dX6_voice_93 (pc' := 95) rfl ?_
                    refine X.iload (i := 6) rfl dX6_voice_95 (pc' := 97) rfl ?_
                    refine X.icmp_lt (tgt := 108) dX6_voice_97 ⟨by omega, by omega⟩ ⟨by omega, by omega⟩ (by decide) (pc' := 100) rfl (fun c97 => ?_) (fun c97 => ?_)
                    · refine X.iinc (i := 7) (ls' := [some (rf m), some (vi s), some (vi t), some (vi l), some (vi r), some (vi la), some (vi ra), some (vi (k + 1)), some (vi co)]) dX6_voice_108 rfl (by decide) rfl rfl (pc' := 111) rfl ?_
                      refine X.goto (tgt := 14) dX6_voice_111 (by decide) ?_
                      refine X.mask (bs := [true, true, true, true, true, true, true, true, false]) (ls' := [some (rf m), some (vi s), some (vi t), some (vi l), some (vi r), some (vi la), some (vi ra), some (vi (k + 1)), none]) rfl ?_
                      refine ih14 l r la ra (k + 1) (by omega) ?_
                      have hat := vFo_at (f := aCo A s) (m := aSt A 2) (t := t) hk0
                      unfold vSt at hat
                      rw [← hl, ← hr, ← hco2] at hat
                      rw [if_pos (by omega), if_neg (by omega), if_neg (by omega)] at hat
                      exact ⟨by omega, by omega, by rw [hat]; exact hl, by rw [hat]; exact hr, hla, hra⟩
                    · refine X.iload (i := 7) rfl dX6_voice_100 (pc' := 102) rfl ?_
                      refine X.istore (i := 4) (ls' := [some (rf m), some (vi s), some (vi t), some (vi l), some (vi k), some (vi la), some (vi ra), some (vi k), some (vi co)]) (hd := dX6_voice_102) (by decide) rfl rfl (pc' := 104) rfl ?_
                      refine X.iload (i := 8) rfl dX6_voice_104 (pc' := 106) rfl ?_
                      refine X.istore (i := 6) (ls' := [some (rf m), some (vi s), some (vi t), some (vi l), some (vi k), some (vi la), some (vi co), some (vi k), some (vi co)]) (hd := dX6_voice_106) (by decide) rfl rfl (pc' := 108) rfl ?_
                      refine X.iinc (i := 7) (ls' := [some (rf m), some (vi s), some (vi t), some (vi l), some (vi k), some (vi la), some (vi co), some (vi (k + 1)), some (vi co)]) dX6_voice_108 rfl (by decide) rfl rfl (pc' := 111) rfl ?_
                      refine X.goto (tgt := 14) dX6_voice_111 (by decide) ?_
                      refine X.mask (bs := [true, true, true, true, true, true, true, true, false]) (ls' := [some (rf m), some (vi s), some (vi t), some (vi l), some (vi k), some (vi la), some (vi co), some (vi (k + 1)), none]) rfl ?_
                      refine ih14 l k la co (k + 1) (by omega) ?_
                      have hat := vFo_at (f := aCo A s) (m := aSt A 2) (t := t) hk0
                      unfold vSt at hat
                      rw [← hl, ← hr, ← hco2] at hat
                      rw [if_pos (by omega), if_neg (by omega), if_pos (by omega)] at hat
                      rw [hat]
                      exact ⟨by omega, by omega, rfl, rfl, hla, fun _ => hco2⟩
                · refine X.iload_n (i := 3) rfl rfl dX6_voice_71 (pc' := 72) rfl ?_
                  refine X.istore (i := 4) (ls' := [some (rf m), some (vi s), some (vi t), some (vi l), some (vi l), some (vi la), some (vi ra), some (vi k), some (vi co)]) (hd := dX6_voice_72) (by decide) rfl rfl (pc' := 74) rfl ?_
                  refine X.iload (i := 5) rfl dX6_voice_74 (pc' := 76) rfl ?_
                  refine X.istore (i := 6) (ls' := [some (rf m), some (vi s), some (vi t), some (vi l), some (vi l), some (vi la), some (vi la), some (vi k), some (vi co)]) (hd := dX6_voice_76) (by decide) rfl rfl (pc' := 78) rfl ?_
                  refine X.iload (i := 7) rfl dX6_voice_78 (pc' := 80) rfl ?_
                  refine X.istore_n (i := 3) (ls' := [some (rf m), some (vi s), some (vi t), some (vi k), some (vi l), some (vi la), some (vi la), some (vi k), some (vi co)]) (hi := rfl) (hd := dX6_voice_80) (by decide) rfl rfl (pc' := 81) rfl ?_
                  refine X.iload (i := 8) rfl dX6_voice_81 (pc' := 83) rfl ?_
                  refine X.istore (i := 5) (ls' := [some (rf m), some (vi s), some (vi t), some (vi k), some (vi l), some (vi co), some (vi la), some (vi k), some (vi co)]) (hd := dX6_voice_83) (by decide) rfl rfl (pc' := 85) rfl ?_
                  refine X.goto (tgt := 108) dX6_voice_85 (by decide) ?_
                  refine X.iinc (i := 7) (ls' := [some (rf m), some (vi s), some (vi t), some (vi k), some (vi l), some (vi co), some (vi la), some (vi (k + 1)), some (vi co)]) dX6_voice_108 rfl (by decide) rfl rfl (pc' := 111) rfl ?_
                  refine X.goto (tgt := 14) dX6_voice_111 (by decide) ?_
                  refine X.mask (bs := [true, true, true, true, true, true, true, true, false]) (ls' := [some (rf m), some (vi s), some (vi t), some (vi k), some (vi l), some (vi co), some (vi la), some (vi (k + 1)), none]) rfl ?_
                  refine ih14 k l co la (k + 1) (by omega) ?_
                  have hat := vFo_at (f := aCo A s) (m := aSt A 2) (t := t) hk0
                  unfold vSt at hat
                  rw [← hl, ← hr, ← hco2] at hat
                  rw [if_pos (by omega), if_pos (by omega)] at hat
                  rw [hat]
                  exact ⟨by omega, by omega, rfl, rfl, fun _ => hco2, fun z => hla z⟩
  refine L14 _ ((-1)) ((-1)) ((-1)) ((-1)) 0 (Nat.lt_succ_self _) ?_
  exact ⟨by omega, by omega, rfl, rfl, fun z => by omega, fun z => by omega⟩
