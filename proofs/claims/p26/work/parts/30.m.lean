set_option maxHeartbeats 4000000 in
set_option maxRecDepth 100000 in
theorem k_X5_isWithin {Ω : xO} {h : xM} {v lo hi : Int} (hv : inR v) (hl : inR lo) (hh : inR hi) : xCt Ω yX5_isWithin cX5_isWithin 3 (some .boolean) rm_X5_isWithin [vi v, vi lo, vi hi] h (fun q h' => h = h' ∧ ∃ r, q = some (vi r) ∧ (((lo ≤ v ∧ v ≤ hi) ∧ r = 1) ∨ ((v < lo ∨ hi < v) ∧ r = 0))) xNo := by
  refine xCt_of (ini := false) (by decide +kernel) (Nat.le_of_ble_eq_true rfl) (fun q => absurd q (by decide)) ?_
  generalize hPR : (fun q h' => h = h' ∧ ∃ r, q = some (vi r) ∧ (((lo ≤ v ∧ v ≤ hi) ∧ r = 1) ∨ ((v < lo ∨ hi < v) ∧ r = 0)) : Option xV → xM → Prop) = PR
  have K0 : X Ω RX5 cX5_isWithin 3 (some .boolean) false rm_X5_isWithin PR xNo 0 0 0 [some (vi v), some (vi lo), some (vi hi)] [] h := ?_
  exact K0
  obtain ⟨hv1, hv2⟩ := hv
  obtain ⟨hl1, hl2⟩ := hl
  obtain ⟨hh1, hh2⟩ := hh
  refine X.iload_n (i := 0) rfl rfl dX5_isWithin_0 (pc' := 1) rfl ?_
  refine X.iload_n (i := 1) rfl rfl dX5_isWithin_1 (pc' := 2) rfl ?_
  refine X.icmp_lt (tgt := 14) dX5_isWithin_2 ⟨by omega, by omega⟩ ⟨by omega, by omega⟩ (by decide) (pc' := 5) rfl (fun c2 => ?_) (fun c2 => ?_)
  · refine X.iconst dX5_isWithin_14 (pc' := 15) rfl ?_
    refine X.iret dX5_isWithin_15 (Or.inr ⟨rfl, by omega⟩) (Nat.le_of_ble_eq_true rfl) (Nat.le_of_ble_eq_true rfl) ?_
    subst hPR
    exact ⟨rfl, _, rfl, by omega⟩
  · refine X.iload_n (i := 0) rfl rfl dX5_isWithin_5 (pc' := 6) rfl ?_
    refine X.iload_n (i := 2) rfl rfl dX5_isWithin_6 (pc' := 7) rfl ?_
    refine X.icmp_gt (tgt := 14) dX5_isWithin_7 ⟨by omega, by omega⟩ ⟨by omega, by omega⟩ (by decide) (pc' := 10) rfl (fun c7 => ?_) (fun c7 => ?_)
    · refine X.iconst dX5_isWithin_14 (pc' := 15) rfl ?_
      refine X.iret dX5_isWithin_15 (Or.inr ⟨rfl, by omega⟩) (Nat.le_of_ble_eq_true rfl) (Nat.le_of_ble_eq_true rfl) ?_
      subst hPR
      exact ⟨rfl, _, rfl, by omega⟩
    · refine X.iconst dX5_isWithin_10 (pc' := 11) rfl ?_
      refine X.goto (tgt := 15) dX5_isWithin_11 (by decide) ?_
      refine X.iret dX5_isWithin_15 (Or.inr ⟨rfl, by omega⟩) (Nat.le_of_ble_eq_true rfl) (Nat.le_of_ble_eq_true rfl) ?_
      subst hPR
      exact ⟨rfl, _, rfl, by omega⟩
set_option maxHeartbeats 4000000 in
set_option maxRecDepth 100000 in
theorem k_X0_messagePlace {Ω : xO} {h : xM} {x y : Int}  : xCt Ω yX0_messagePlace cX0_messagePlace 2 (some .int) rm_X0_messagePlace [vi x, vi y] h (fun q h' => h = h' ∧ ∃ r, q = some (vi r) ∧ r = x * 10 + y) xNo := by
  refine xCt_of (ini := false) (by decide +kernel) (Nat.le_of_ble_eq_true rfl) (fun q => absurd q (by decide)) ?_
  generalize hPR : (fun q h' => h = h' ∧ ∃ r, q = some (vi r) ∧ r = x * 10 + y : Option xV → xM → Prop) = PR
  have K0 : X Ω RX0 cX0_messagePlace 2 (some .int) false rm_X0_messagePlace PR xNo 0 0 0 [some (vi x), some (vi y)] [] h := ?_
  exact K0
  refine X.iload_n (i := 0) rfl rfl dX0_messagePlace_0 (pc' := 1) rfl ?_
  refine X.bipush (by decide +kernel) dX0_messagePlace_1 (pc' := 3) rfl ?_
  refine X.imul dX0_messagePlace_3 (pc' := 4) rfl ?_
  refine X.iload_n (i := 1) rfl rfl dX0_messagePlace_4 (pc' := 5) rfl ?_
  refine X.iadd dX0_messagePlace_5 (pc' := 6) rfl ?_
  refine X.iret dX0_messagePlace_6 (Or.inl rfl) (Nat.le_of_ble_eq_true rfl) (Nat.le_of_ble_eq_true rfl) ?_
  subst hPR
  exact ⟨rfl, _, rfl, by omega⟩
set_option maxHeartbeats 4000000 in
set_option maxRecDepth 100000 in
theorem k_X0_canSpeak {Ω : xO} {h : xM} {b : Nat} (hC : ChS h b) : xCt Ω yX0_canSpeak cX0_canSpeak 1 (some .boolean) rm_X0_canSpeak [rf b] h (fun q h' => h = h' ∧ ∃ r, q = some (vi r) ∧ (((mI h b 1 < 200 ∧ mI h b 0 < 400) ∧ r = 1) ∨ ((200 ≤ mI h b 1 ∨ 400 ≤ mI h b 0) ∧ r = 0))) xNo := by
  refine xCt_of (ini := false) (by decide +kernel) (Nat.le_of_ble_eq_true rfl) (fun q => absurd q (by decide)) ?_
  generalize hPR : (fun q h' => h = h' ∧ ∃ r, q = some (vi r) ∧ (((mI h b 1 < 200 ∧ mI h b 0 < 400) ∧ r = 1) ∨ ((200 ≤ mI h b 1 ∨ 400 ≤ mI h b 0) ∧ r = 0)) : Option xV → xM → Prop) = PR
  have K0 : X Ω RX0 cX0_canSpeak 1 (some .boolean) false rm_X0_canSpeak PR xNo 0 0 0 [some (rf b)] [] h := ?_
  exact K0
  refine X.aload_n (i := 0) rfl rfl dX0_canSpeak_0 (pc' := 1) rfl ?_
  refine X.getI (x := mI h b 1) fk_X0_48 xcl_0 dX0_canSpeak_1 (by decide) hC.1 rfl (pc' := 4) rfl (fun r1 => ?_)
  obtain ⟨r1a, r1b⟩ := r1
  refine X.sipush (by decide +kernel) dX0_canSpeak_4 (pc' := 7) rfl ?_
  refine X.icmp_ge (tgt := 24) dX0_canSpeak_7 ⟨by omega, by omega⟩ ⟨by omega, by omega⟩ (by decide) (pc' := 10) rfl (fun c7 => ?_) (fun c7 => ?_)
  · refine X.iconst dX0_canSpeak_24 (pc' := 25) rfl ?_
    refine X.iret dX0_canSpeak_25 (Or.inr ⟨rfl, by omega⟩) (Nat.le_of_ble_eq_true rfl) (Nat.le_of_ble_eq_true rfl) ?_
    subst hPR
    exact ⟨rfl, _, rfl, by omega⟩
  · refine X.aload_n (i := 0) rfl rfl dX0_canSpeak_10 (pc' := 11) rfl ?_
    refine X.getI (x := mI h b 0) fk_X0_44 xcl_0 dX0_canSpeak_11 (by decide) hC.1 rfl (pc' := 14) rfl (fun r2 => ?_)
    obtain ⟨r2a, r2b⟩ := r2
    refine X.sipush (by decide +kernel) dX0_canSpeak_14 (pc' := 17) rfl ?_
    refine X.icmp_ge (tgt := 24) dX0_canSpeak_17 ⟨by omega, by omega⟩ ⟨by omega, by omega⟩ (by decide) (pc' := 20) rfl (fun c17 => ?_) (fun c17 => ?_)
    · refine X.iconst dX0_canSpeak_24 (pc' := 25) rfl ?_
      refine X.iret dX0_canSpeak_25 (Or.inr ⟨rfl, by omega⟩) (Nat.le_of_ble_eq_true rfl) (Nat.le_of_ble_eq_true rfl) ?_
      subst hPR
      exact ⟨rfl, _, rfl, by omega⟩
    · refine X.iconst dX0_canSpeak_20 (pc' := 21) rfl ?_
      refine X.goto (tgt := 25) dX0_canSpeak_21 (by decide) ?_
      refine X.iret dX0_canSpeak_25 (Or.inr ⟨rfl, by omega⟩) (Nat.le_of_ble_eq_true rfl) (Nat.le_of_ble_eq_true rfl) ?_
      subst hPR
      exact ⟨rfl, _, rfl, by omega⟩
set_option maxHeartbeats 4000000 in
set_option maxRecDepth 100000 in
theorem k_X0_canRest {Ω : xO} {h : xM} {b : Nat} {n : Int} (hC : ChS h b) (hn : 1 ≤ n ∧ n ≤ 1000000) (hb : 0 ≤ mI h b 0 ∧ mI h b 0 ≤ 400) : xCt Ω yX0_canRest cX0_canRest 2 (some .boolean) rm_X0_canRest [rf b, vi n] h (fun q h' => h = h' ∧ ∃ r, q = some (vi r) ∧ (((mI h b 0 + n ≤ 400) ∧ r = 1) ∨ ((400 < mI h b 0 + n) ∧ r = 0))) xNo := by
  refine xCt_of (ini := false) (by decide +kernel) (Nat.le_of_ble_eq_true rfl) (fun q => absurd q (by decide)) ?_
  generalize hPR : (fun q h' => h = h' ∧ ∃ r, q = some (vi r) ∧ (((mI h b 0 + n ≤ 400) ∧ r = 1) ∨ ((400 < mI h b 0 + n) ∧ r = 0)) : Option xV → xM → Prop) = PR
  have K0 : X Ω RX0 cX0_canRest 2 (some .boolean) false rm_X0_canRest PR xNo 0 0 0 [some (rf b), some (vi n)] [] h := ?_
  exact K0
  refine X.aload_n (i := 0) rfl rfl dX0_canRest_0 (pc' := 1) rfl ?_
  refine X.getI (x := mI h b 0) fk_X0_44 xcl_0 dX0_canRest_1 (by decide) hC.1 rfl (pc' := 4) rfl (fun r1 => ?_)
  obtain ⟨r1a, r1b⟩ := r1
  refine X.iload_n (i := 1) rfl rfl dX0_canRest_4 (pc' := 5) rfl ?_
  refine X.iadd dX0_canRest_5 (pc' := 6) rfl ?_
  refine X.sipush (by decide +kernel) dX0_canRest_6 (pc' := 9) rfl ?_
  refine X.icmp_gt (tgt := 16) dX0_canRest_9 ⟨by omega, by omega⟩ ⟨by omega, by omega⟩ (by decide) (pc' := 12) rfl (fun c9 => ?_) (fun c9 => ?_)
  · refine X.iconst dX0_canRest_16 (pc' := 17) rfl ?_
    refine X.iret dX0_canRest_17 (Or.inr ⟨rfl, by omega⟩) (Nat.le_of_ble_eq_true rfl) (Nat.le_of_ble_eq_true rfl) ?_
    subst hPR
    exact ⟨rfl, _, rfl, by omega⟩
  · refine X.iconst dX0_canRest_12 (pc' := 13) rfl ?_
    refine X.goto (tgt := 17) dX0_canRest_13 (by decide) ?_
    refine X.iret dX0_canRest_17 (Or.inr ⟨rfl, by omega⟩) (Nat.le_of_ble_eq_true rfl) (Nat.le_of_ble_eq_true rfl) ?_
    subst hPR
    exact ⟨rfl, _, rfl, by omega⟩
set_option maxHeartbeats 4000000 in
set_option maxRecDepth 100000 in
theorem k_X0_delayBetween {Ω : xO} {h : xM} {b : Nat} {A : aS} {x y : Int} (hR : R0 h b A) (hx : 0 ≤ x ∧ x < 6) (hy : 0 ≤ y ∧ y < 6) : xCt Ω yX0_delayBetween cX0_delayBetween 6 (some .int) rm_X0_delayBetween [rf b, vi x, vi y] h (fun q h' => h = h' ∧ ∃ r, q = some (vi r) ∧ r = dly A x y) xNo := by
  refine xCt_of (ini := false) (by decide +kernel) (Nat.le_of_ble_eq_true rfl) (fun q => absurd q (by decide)) ?_
  generalize hPR : (fun q h' => h = h' ∧ ∃ r, q = some (vi r) ∧ r = dly A x y : Option xV → xM → Prop) = PR
  have K0 : X Ω RX0 cX0_delayBetween 6 (some .int) false rm_X0_delayBetween PR xNo 0 0 0 [some (rf b), some (vi x), some (vi y), none, none, none] [] h := ?_
  exact K0
  obtain ⟨okB, okN, okWl, okS, okW, okM, okC, okH⟩ := id hR.2.1
  refine X.iload_n (i := 1) rfl rfl dX0_delayBetween_0 (pc' := 1) rfl ?_
  refine X.iload_n (i := 2) rfl rfl dX0_delayBetween_1 (pc' := 2) rfl ?_
  refine X.isub dX0_delayBetween_2 (pc' := 3) rfl ?_
  refine X.mabs dX0_delayBetween_3 wd_186 wd_187 wd_31 wd_188 ⟨Nat.le_of_ble_eq_true rfl, Nat.le_of_ble_eq_true rfl, Nat.le_of_ble_eq_true rfl, Nat.le_of_ble_eq_true rfl⟩ ⟨by omega, by omega⟩ (pc' := 6) rfl (fun z1 hz1 => ?_)
  refine X.istore_n (i := 3) (ls' := [some (rf b), some (vi x), some (vi y), some (vi z1), none, none]) (hi := rfl) (hd := dX0_delayBetween_6) (by decide) rfl rfl (pc' := 7) rfl ?_
  refine X.iload_n (i := 3) rfl rfl dX0_delayBetween_7 (pc' := 8) rfl ?_
  refine X.bipush (by decide +kernel) dX0_delayBetween_8 (pc' := 10) rfl ?_
  refine X.iload_n (i := 3) rfl rfl dX0_delayBetween_10 (pc' := 11) rfl ?_
  refine X.isub dX0_delayBetween_11 (pc' := 12) rfl ?_
  refine X.mmin dX0_delayBetween_12 wd_189 wd_190 wd_31 wd_191 ⟨Nat.le_of_ble_eq_true rfl, Nat.le_of_ble_eq_true rfl, Nat.le_of_ble_eq_true rfl, Nat.le_of_ble_eq_true rfl⟩ ⟨by omega, by omega⟩ ⟨by omega, by omega⟩ (pc' := 15) rfl (fun z2 hz2 => ?_)
  refine X.istore (i := 4) (ls' := [some (rf b), some (vi x), some (vi y), some (vi z1), some (vi z2), none]) (hd := dX0_delayBetween_15) (by decide) rfl rfl (pc' := 17) rfl ?_
  refine X.aload_n (i := 0) rfl rfl dX0_delayBetween_17 (pc' := 18) rfl ?_
  refine X.getR fk_X0_15 xcl_0 dX0_delayBetween_18 hR.1.1 hR.1.2.2.1.1 (pc' := 21) rfl ?_
  refine X.iconst dX0_delayBetween_21 (pc' := 22) rfl ?_
  refine X.iald (x := aSt A 0) dX0_delayBetween_22 hR.1.2.2.1.2 (by omega) (by omega) ⟨by omega, by omega⟩ (hR.2.2.2.2.2.1 0 (by omega) (by omega)) (pc' := 23) rfl (fun r3 => ?_)
  obtain ⟨r3a, r3b⟩ := r3
  refine X.aload_n (i := 0) rfl rfl dX0_delayBetween_23 (pc' := 24) rfl ?_
  refine X.getR fk_X0_15 xcl_0 dX0_delayBetween_24 hR.1.1 hR.1.2.2.1.1 (pc' := 27) rfl ?_
  refine X.iconst dX0_delayBetween_27 (pc' := 28) rfl ?_
  refine X.iald (x := aSt A 1) dX0_delayBetween_28 hR.1.2.2.1.2 (by omega) (by omega) ⟨by omega, by omega⟩ (hR.2.2.2.2.2.1 1 (by omega) (by omega)) (pc' := 29) rfl (fun r4 => ?_)
  obtain ⟨r4a, r4b⟩ := r4
  refine X.iload (i := 4) rfl dX0_delayBetween_29 (pc' := 31) rfl ?_
  refine X.imul dX0_delayBetween_31 (pc' := 32) rfl ?_
  refine X.iadd dX0_delayBetween_32 (pc' := 33) rfl ?_
  refine X.gen (fun del hdel => ?_)
  refine X.istore (i := 5) (ls' := [some (rf b), some (vi x), some (vi y), some (vi z1), some (vi z2), some (vi del)]) (hd := dX0_delayBetween_33) (by decide) rfl rfl (pc' := 35) rfl ?_
  refine X.aload_n (i := 0) rfl rfl dX0_delayBetween_35 (pc' := 36) rfl ?_
  refine X.getR fk_X0_9 xcl_0 dX0_delayBetween_36 hR.1.1 hR.1.2.1.1 (pc' := 39) rfl ?_
  refine X.iload_n (i := 2) rfl rfl dX0_delayBetween_39 (pc' := 40) rfl ?_
  refine X.iald (x := aWl A y) dX0_delayBetween_40 hR.1.2.1.2 (by omega) (by omega) ⟨by omega, by omega⟩ (hR.2.2.2.2.1 y (by omega) (by omega)) (pc' := 41) rfl (fun r5 => ?_)
  obtain ⟨r5a, r5b⟩ := r5
  have r5c := hR.2.1.2.2.1 y (by omega) (by omega)
  have hdd : z2 = dist x y := by unfold dist; omega
  rcases (show (aWl A y) = 1 ∨ (aWl A y) = 2 ∨ (aWl A y) = 3 ∨ (aWl A y < 1 ∨ 3 < aWl A y) by omega) with sw6 | sw6 | sw6 | sw6
  · refine X.tableIn (tgt := 68) (off := 27) dX0_delayBetween_41 ⟨by omega, by omega⟩ (by omega) (by omega) (by rw [sw6]; rfl) (by decide) ?_
    refine X.iload (i := 4) rfl dX0_delayBetween_68 (pc' := 70) rfl ?_
    refine X.iconst dX0_delayBetween_70 (pc' := 71) rfl ?_
    refine X.icmp_ne (tgt := 78) dX0_delayBetween_71 ⟨by omega, by omega⟩ ⟨by omega, by omega⟩ (by decide) (pc' := 74) rfl (fun c71 => ?_) (fun c71 => ?_)
    · refine X.iload (i := 5) rfl dX0_delayBetween_78 (pc' := 80) rfl ?_
      refine X.iret dX0_delayBetween_80 (Or.inl rfl) (Nat.le_of_ble_eq_true rfl) (Nat.le_of_ble_eq_true rfl) ?_
      subst hPR
      refine ⟨rfl, _, rfl, ?_⟩
      unfold dly
      rw [← hdd]
      split <;> (try split) <;> omega
    · refine X.iconst dX0_delayBetween_74 (pc' := 75) rfl ?_
      refine X.goto (tgt := 80) dX0_delayBetween_75 (by decide) ?_
      refine X.iret dX0_delayBetween_80 (Or.inl rfl) (Nat.le_of_ble_eq_true rfl) (Nat.le_of_ble_eq_true rfl) ?_
      subst hPR
      refine ⟨rfl, _, rfl, ?_⟩
      unfold dly
      rw [← hdd]
      split <;> (try split) <;> omega
  · refine X.tableIn (tgt := 81) (off := 40) dX0_delayBetween_41 ⟨by omega, by omega⟩ (by omega) (by omega) (by rw [sw6]; rfl) (by decide) ?_
    refine X.iload (i := 5) rfl dX0_delayBetween_81 (pc' := 83) rfl ?_
    refine X.iconst dX0_delayBetween_83 (pc' := 84) rfl ?_
    refine X.iadd dX0_delayBetween_84 (pc' := 85) rfl ?_
    refine X.iret dX0_delayBetween_85 (Or.inl rfl) (Nat.le_of_ble_eq_true rfl) (Nat.le_of_ble_eq_true rfl) ?_
    subst hPR
    refine ⟨rfl, _, rfl, ?_⟩
    unfold dly
    rw [← hdd]
    split <;> (try split) <;> omega
  · refine X.tableIn (tgt := 86) (off := 45) dX0_delayBetween_41 ⟨by omega, by omega⟩ (by omega) (by omega) (by rw [sw6]; rfl) (by decide) ?_
    refine X.iload (i := 4) rfl dX0_delayBetween_86 (pc' := 88) rfl ?_
    refine X.iconst dX0_delayBetween_88 (pc' := 89) rfl ?_
    refine X.icmp_ne (tgt := 96) dX0_delayBetween_89 ⟨by omega, by omega⟩ ⟨by omega, by omega⟩ (by decide) (pc' := 92) rfl (fun c89 => ?_) (fun c89 => ?_)
    · refine X.iload (i := 5) rfl dX0_delayBetween_96 (pc' := 98) rfl ?_
      refine X.iret dX0_delayBetween_98 (Or.inl rfl) (Nat.le_of_ble_eq_true rfl) (Nat.le_of_ble_eq_true rfl) ?_
      subst hPR
      refine ⟨rfl, _, rfl, ?_⟩
      unfold dly
      rw [← hdd]
      split <;> (try split) <;> omega
    · refine X.iconst dX0_delayBetween_92 (pc' := 93) rfl ?_
      refine X.goto (tgt := 98) dX0_delayBetween_93 (by decide) ?_
      refine X.iret dX0_delayBetween_98 (Or.inl rfl) (Nat.le_of_ble_eq_true rfl) (Nat.le_of_ble_eq_true rfl) ?_
      subst hPR
      refine ⟨rfl, _, rfl, ?_⟩
      unfold dly
      rw [← hdd]
      split <;> (try split) <;> omega
  · refine X.tableOut (tgt := 99) dX0_delayBetween_41 ⟨by omega, by omega⟩ sw6 (by decide) ?_
    refine X.iload (i := 5) rfl dX0_delayBetween_99 (pc' := 101) rfl ?_
    refine X.iret dX0_delayBetween_101 (Or.inl rfl) (Nat.le_of_ble_eq_true rfl) (Nat.le_of_ble_eq_true rfl) ?_
    subst hPR
    refine ⟨rfl, _, rfl, ?_⟩
    unfold dly
    rw [← hdd]
    split <;> (try split) <;> omega
set_option maxHeartbeats 4000000 in
set_option maxRecDepth 100000 in
theorem k_X0_secondLast {Ω : xO} {h : xM} {b : Nat} {A : aS} {s t : Int} (hR : R0 h b A) (hs : 0 ≤ s ∧ s < 6) (ht : 0 ≤ t ∧ t ≤ 1000) : xCt Ω yX0_secondLast cX0_secondLast 9 (some .int) rm_X0_secondLast [rf b, vi s, vi t] h (fun q h' => h = h' ∧ ∃ r, q = some (vi r) ∧ r = vce A s t) xNo := by
  refine xCt_of (ini := false) (by decide +kernel) (Nat.le_of_ble_eq_true rfl) (fun q => absurd q (by decide)) ?_
  generalize hPR : (fun q h' => h = h' ∧ ∃ r, q = some (vi r) ∧ r = vce A s t : Option xV → xM → Prop) = PR
  have K0 : X Ω RX0 cX0_secondLast 9 (some .int) false rm_X0_secondLast PR xNo 0 0 0 [some (rf b), some (vi s), some (vi t), none, none, none, none, none, none] [] h := ?_
  exact K0
  obtain ⟨okB, okN, okWl, okS, okW, okM, okC, okH⟩ := id hR.2.1
  refine X.aload_n (i := 0) rfl rfl dX0_secondLast_0 (pc' := 1) rfl ?_
  refine X.getR fk_X0_32 xcl_0 dX0_secondLast_1 hR.1.1 hR.1.2.2.2.2.2.2.2.1.1 (pc' := 4) rfl ?_
  refine X.iload_n (i := 1) rfl rfl dX0_secondLast_4 (pc' := 5) rfl ?_
  refine X.aald13 dX0_secondLast_5 hR.1.2.2.2.2.2.2.2.1.2 (by omega) (by omega) ⟨by omega, by omega⟩ (hR.1.2.2.2.2.2.2.2.2.2.2.2.1 (s) (by omega) (by omega)).1 (pc' := 6) rfl ?_
  refine X.astore_n (i := 3) (ls' := [some (rf b), some (vi s), some (vi t), some (rf ((b + 8 + (s).toNat))), none, none, none, none, none]) (hi := rfl) (hd := dX0_secondLast_6) (by decide) rfl rfl (pc' := 7) rfl ?_
  refine X.iload_n (i := 2) rfl rfl dX0_secondLast_7 (pc' := 8) rfl ?_
  refine X.aload_n (i := 0) rfl rfl dX0_secondLast_8 (pc' := 9) rfl ?_
  refine X.getR fk_X0_15 xcl_0 dX0_secondLast_9 hR.1.1 hR.1.2.2.1.1 (pc' := 12) rfl ?_
  refine X.iconst dX0_secondLast_12 (pc' := 13) rfl ?_
  refine X.iald (x := aSt A 2) dX0_secondLast_13 hR.1.2.2.1.2 (by omega) (by omega) ⟨by omega, by omega⟩ (hR.2.2.2.2.2.1 2 (by omega) (by omega)) (pc' := 14) rfl (fun r1 => ?_)
  obtain ⟨r1a, r1b⟩ := r1
  refine X.isub dX0_secondLast_14 (pc' := 15) rfl ?_
  refine X.gen (fun e he => ?_)
  refine X.istore (i := 4) (ls' := [some (rf b), some (vi s), some (vi t), some (rf ((b + 8 + (s).toNat))), some (vi e), none, none, none, none]) (hd := dX0_secondLast_15) (by decide) rfl rfl (pc' := 17) rfl ?_
  refine X.iconst dX0_secondLast_17 (pc' := 18) rfl ?_
  refine X.istore (i := 5) (ls' := [some (rf b), some (vi s), some (vi t), some (rf ((b + 8 + (s).toNat))), some (vi e), some (vi ((-1))), none, none, none]) (hd := dX0_secondLast_18) (by decide) rfl rfl (pc' := 20) rfl ?_
  refine X.iconst dX0_secondLast_20 (pc' := 21) rfl ?_
  refine X.istore (i := 6) (ls' := [some (rf b), some (vi s), some (vi t), some (rf ((b + 8 + (s).toNat))), some (vi e), some (vi ((-1))), some (vi ((-1))), none, none]) (hd := dX0_secondLast_21) (by decide) rfl rfl (pc' := 23) rfl ?_
  refine X.aload_n (i := 0) rfl rfl dX0_secondLast_23 (pc' := 24) rfl ?_
  refine X.getI (x := aW A) fk_X0_48 xcl_0 dX0_secondLast_24 (by decide) hR.1.1 hR.2.2.2.1 (pc' := 27) rfl (fun r2 => ?_)
  obtain ⟨r2a, r2b⟩ := r2
  refine X.iconst dX0_secondLast_27 (pc' := 28) rfl ?_
  refine X.isub dX0_secondLast_28 (pc' := 29) rfl ?_
  refine X.gen (fun x3 hx3 => ?_)
  refine X.istore (i := 7) (ls' := [some (rf b), some (vi s), some (vi t), some (rf ((b + 8 + (s).toNat))), some (vi e), some (vi ((-1))), some (vi ((-1))), some (vi x3), none]) (hd := dX0_secondLast_29) (by decide) rfl rfl (pc' := 31) rfl ?_
  have L31 : ∀ (n31 : Nat) (n : Int) (l : Int) (r : Int), (n + 1).toNat < n31 → (-1 ≤ n ∧ n < aW A ∧ T2 (fun k => (n < k ∧ k < aW A) ∧ vOk (aCo A s) (aSt A 2) t k) (aCo A s) l r) → X Ω RX0 cX0_secondLast 9 (some .int) false rm_X0_secondLast PR xNo 0 0 31 [some (rf b), some (vi s), some (vi t), some (rf ((b + 8 + (s).toNat))), some (vi e), some (vi l), some (vi r), some (vi n), none] [] h := by
    intro n31
    induction n31 with
    | zero => intro n l r hm _; exfalso; omega
    | succ n31 ih31 =>
      intro n l r hm31 hinv
      obtain ⟨hn1, hn2, hT⟩ := hinv
      have hb := hT.bnd
      have hl : l = -1 ∨ (n < l ∧ l < aW A) := by
        rcases hb.1.2 with e | e
        · exact Or.inl e
        · exact Or.inr e.1
      have hr : r = -1 ∨ (n < r ∧ r < aW A) := by
        rcases hb.2.2 with e | e
        · exact Or.inl e
        · exact Or.inr e.1
      refine X.iload (i := 7) rfl dX0_secondLast_31 (pc' := 33) rfl ?_
      refine X.if_lt (tgt := 130) dX0_secondLast_33 ⟨by omega, by omega⟩ (by decide) (pc' := 36) rfl (fun c33 => ?_) (fun c33 => ?_)
      · refine X.iload (i := 6) rfl dX0_secondLast_130 (pc' := 132) rfl ?_
        refine X.iret dX0_secondLast_132 (Or.inl rfl) (Nat.le_of_ble_eq_true rfl) (Nat.le_of_ble_eq_true rfl) ?_
        subst hPR
        exact ⟨rfl, _, rfl, voi_of (hT.skip (fun k => ⟨fun hk => ⟨by have := hk.1; omega, hk.2⟩, fun hk => ⟨by have := hk.1; omega, hk.2⟩⟩)) (by omega)⟩
      · refine X.aload_n (i := 0) rfl rfl dX0_secondLast_36 (pc' := 37) rfl ?_
        refine X.getR fk_X0_27 xcl_0 dX0_secondLast_37 hR.1.1 hR.1.2.2.2.2.2.2.1.1 (pc' := 40) rfl ?_
        refine X.iload (i := 7) rfl dX0_secondLast_40 (pc' := 42) rfl ?_
        refine X.iald (x := aAt A n) dX0_secondLast_42 hR.1.2.2.2.2.2.2.1.2 (by omega) (by omega) ⟨by omega, by omega⟩ (hR.2.2.2.2.2.2.2.2.2.1 n (by omega) (by omega)) (pc' := 43) rfl (fun r4 => ?_)
        obtain ⟨r4a, r4b⟩ := r4
        have r4c := hR.2.1.2.2.2.2.1 n (by omega) (by omega)
        refine X.iload (i := 4) rfl dX0_secondLast_43 (pc' := 45) rfl ?_
        refine X.bipush (by decide +kernel) dX0_secondLast_45 (pc' := 47) rfl ?_
        refine X.isub dX0_secondLast_47 (pc' := 48) rfl ?_
        refine X.icmp_lt (tgt := 130) dX0_secondLast_48 ⟨by omega, by omega⟩ ⟨by omega, by omega⟩ (by decide) (pc' := 51) rfl (fun c48 => ?_) (fun c48 => ?_)
        · refine X.iload (i := 6) rfl dX0_secondLast_130 (pc' := 132) rfl ?_
          refine X.iret dX0_secondLast_132 (Or.inl rfl) (Nat.le_of_ble_eq_true rfl) (Nat.le_of_ble_eq_true rfl) ?_
          subst hPR
          refine ⟨rfl, _, rfl, voi_of (hT.skip (fun k => ⟨fun hk => ⟨?_, hk.2⟩, fun hk => ⟨by have := hk.1; omega, hk.2⟩⟩)) (by omega)⟩
          have hk1 := hk.1
          have hk2 := hk.2
          unfold vOk at hk2
          refine ⟨?_, by omega⟩
          by_cases e9 : n < k
          · exact e9
          · exfalso
            have q1 := okC s k (by omega) (by omega) (by omega) (by omega)
            by_cases e8 : k = n
            · subst e8; omega
            · have q2 := okM k n (by omega) (by omega) (by omega)
              omega
        · refine X.aload_n (i := 3) rfl rfl dX0_secondLast_51 (pc' := 52) rfl ?_
          refine X.iload (i := 7) rfl dX0_secondLast_52 (pc' := 54) rfl ?_
          refine X.iald (x := aCo A s n) dX0_secondLast_54 (hR.1.2.2.2.2.2.2.2.2.2.2.2.1 (s) (by omega) (by omega)).2 (by omega) (by omega) ⟨by omega, by omega⟩ (hR.2.2.2.2.2.2.2.2.2.2 s n (by omega) (by omega) (by omega) (by omega)) (pc' := 55) rfl (fun r5 => ?_)
          obtain ⟨r5a, r5b⟩ := r5
          have r5c := hR.2.1.2.2.2.2.2.2.1 s n (by omega) (by omega) (by omega) (by omega)
          refine X.gen (fun came hcame => ?_)
          refine X.istore (i := 8) (ls' := [some (rf b), some (vi s), some (vi t), some (rf ((b + 8 + (s).toNat))), some (vi e), some (vi l), some (vi r), some (vi n), some (vi came)]) (hd := dX0_secondLast_55) (by decide) rfl rfl (pc' := 57) rfl ?_
          refine X.iload (i := 8) rfl dX0_secondLast_57 (pc' := 59) rfl ?_
          refine X.iconst dX0_secondLast_59 (pc' := 60) rfl ?_
          refine X.icmp_eq (tgt := 124) dX0_secondLast_60 ⟨by omega, by omega⟩ ⟨by omega, by omega⟩ (by decide) (pc' := 63) rfl (fun c60 => ?_) (fun c60 => ?_)
          · refine X.iinc (i := 7) (ls' := [some (rf b), some (vi s), some (vi t), some (rf ((b + 8 + (s).toNat))), some (vi e), some (vi l), some (vi r), some (vi (n + (-1))), some (vi came)]) dX0_secondLast_124 rfl (by decide) rfl rfl (pc' := 127) rfl ?_
            refine X.goto (tgt := 31) dX0_secondLast_127 (by decide) ?_
            refine X.mask (bs := [true, true, true, true, true, true, true, true, false]) (ls' := [some (rf b), some (vi s), some (vi t), some (rf ((b + 8 + (s).toNat))), some (vi e), some (vi l), some (vi r), some (vi (n + (-1))), none]) rfl ?_
            refine ih31 (n + (-1)) l r (by omega) ?_
            refine ⟨by omega, by omega, ?_⟩
            refine hT.skip (fun k => ⟨fun hk => ⟨?_, hk.2⟩, fun hk => ⟨by have := hk.1; omega, hk.2⟩⟩)
            have hk1 := hk.1
            have hk2 := hk.2
            unfold vOk at hk2
            by_cases e9 : k = n
            · subst e9; exfalso; omega
            · omega
          · refine X.iload (i := 8) rfl dX0_secondLast_63 (pc' := 65) rfl ?_
            refine X.iload (i := 4) rfl dX0_secondLast_65 (pc' := 67) rfl ?_
            refine X.icmp_lt (tgt := 124) dX0_secondLast_67 ⟨by omega, by omega⟩ ⟨by omega, by omega⟩ (by decide) (pc' := 70) rfl (fun c67 => ?_) (fun c67 => ?_)
            · refine X.iinc (i := 7) (ls' := [some (rf b), some (vi s), some (vi t), some (rf ((b + 8 + (s).toNat))), some (vi e), some (vi l), some (vi r), some (vi (n + (-1))), some (vi came)]) dX0_secondLast_124 rfl (by decide) rfl rfl (pc' := 127) rfl ?_
              refine X.goto (tgt := 31) dX0_secondLast_127 (by decide) ?_
              refine X.mask (bs := [true, true, true, true, true, true, true, true, false]) (ls' := [some (rf b), some (vi s), some (vi t), some (rf ((b + 8 + (s).toNat))), some (vi e), some (vi l), some (vi r), some (vi (n + (-1))), none]) rfl ?_
              refine ih31 (n + (-1)) l r (by omega) ?_
              refine ⟨by omega, by omega, ?_⟩
              refine hT.skip (fun k => ⟨fun hk => ⟨?_, hk.2⟩, fun hk => ⟨by have := hk.1; omega, hk.2⟩⟩)
              have hk1 := hk.1
              have hk2 := hk.2
              unfold vOk at hk2
              by_cases e9 : k = n
              · subst e9; exfalso; omega
              · omega
            · refine X.iload (i := 8) rfl dX0_secondLast_70 (pc' := 72) rfl ?_
              refine X.iload_n (i := 2) rfl rfl dX0_secondLast_72 (pc' := 73) rfl ?_
              refine X.icmp_le (tgt := 79) dX0_secondLast_73 ⟨by omega, by omega⟩ ⟨by omega, by omega⟩ (by decide) (pc' := 76) rfl (fun c73 => ?_) (fun c73 => ?_)
              · refine X.iload (i := 5) rfl dX0_secondLast_79 (pc' := 81) rfl ?_
                refine X.iconst dX0_secondLast_81 (pc' := 82) rfl ?_
                refine X.icmp_eq (tgt := 94) dX0_secondLast_82 ⟨by omega, by omega⟩ ⟨by omega, by omega⟩ (by decide) (pc' := 85) rfl (fun c82 => ?_) (fun c82 => ?_)
                · refine X.iload (i := 5) rfl dX0_secondLast_94 (pc' := 96) rfl ?_
                  refine X.istore (i := 6) (ls' := [some (rf b), some (vi s), some (vi t), some (rf ((b + 8 + (s).toNat))), some (vi e), some (vi l), some (vi l), some (vi n), some (vi came)]) (hd := dX0_secondLast_96) (by decide) rfl rfl (pc' := 98) rfl ?_
                  refine X.iload (i := 7) rfl dX0_secondLast_98 (pc' := 100) rfl ?_
                  refine X.istore (i := 5) (ls' := [some (rf b), some (vi s), some (vi t), some (rf ((b + 8 + (s).toNat))), some (vi e), some (vi n), some (vi l), some (vi n), some (vi came)]) (hd := dX0_secondLast_100) (by decide) rfl rfl (pc' := 102) rfl ?_
                  refine X.goto (tgt := 124) dX0_secondLast_102 (by decide) ?_
                  refine X.iinc (i := 7) (ls' := [some (rf b), some (vi s), some (vi t), some (rf ((b + 8 + (s).toNat))), some (vi e), some (vi n), some (vi l), some (vi (n + (-1))), some (vi came)]) dX0_secondLast_124 rfl (by decide) rfl rfl (pc' := 127) rfl ?_
                  refine X.goto (tgt := 31) dX0_secondLast_127 (by decide) ?_
                  refine X.mask (bs := [true, true, true, true, true, true, true, true, false]) (ls' := [some (rf b), some (vi s), some (vi t), some (rf ((b + 8 + (s).toNat))), some (vi e), some (vi n), some (vi l), some (vi (n + (-1))), none]) rfl ?_
                  refine ih31 (n + (-1)) n l (by omega) ?_
                  refine ⟨by omega, by omega, ?_⟩
                  have hv : vOk (aCo A s) (aSt A 2) t n := ⟨by omega, by omega, by omega⟩
                  have hdn := hT.down (P' := fun k => (n + -1 < k ∧ k < aW A) ∧ vOk (aCo A s) (aSt A 2) t k) (n := n) (by omega) (fun k hk => hk.1.1) ⟨by omega, hv⟩ (fun k => ⟨fun hk => by
                    by_cases e9 : k = n
                    · exact Or.inl e9
                    · exact Or.inr ⟨by have := hk.1; omega, hk.2⟩, fun hk => by
                    rcases hk with rfl | hk
                    · exact ⟨by omega, hv⟩
                    · exact ⟨by have := hk.1; omega, hk.2⟩⟩)
                  rw [if_pos (by omega), if_pos (by omega)] at hdn
                  exact hdn
                · refine X.iload (i := 8) rfl dX0_secondLast_85 (pc' := 87) rfl ?_
                  refine X.aload_n (i := 3) rfl rfl dX0_secondLast_87 (pc' := 88) rfl ?_
                  refine X.iload (i := 5) rfl dX0_secondLast_88 (pc' := 90) rfl ?_
                  refine X.iald (x := aCo A s l) dX0_secondLast_90 (hR.1.2.2.2.2.2.2.2.2.2.2.2.1 (s) (by omega) (by omega)).2 (by omega) (by omega) ⟨by omega, by omega⟩ (hR.2.2.2.2.2.2.2.2.2.2 s l (by omega) (by omega) (by omega) (by omega)) (pc' := 91) rfl (fun r6 => ?_)
                  obtain ⟨r6a, r6b⟩ := r6
                  have r6c := hR.2.1.2.2.2.2.2.2.1 s l (by omega) (by omega) (by omega) (by omega)
                  refine X.icmp_le (tgt := 105) dX0_secondLast_91 ⟨by omega, by omega⟩ ⟨by omega, by omega⟩ (by decide) (pc' := 94) rfl (fun c91 => ?_) (fun c91 => ?_)
                  · refine X.iload (i := 6) rfl dX0_secondLast_105 (pc' := 107) rfl ?_
                    refine X.iconst dX0_secondLast_107 (pc' := 108) rfl ?_
                    refine X.icmp_eq (tgt := 120) dX0_secondLast_108 ⟨by omega, by omega⟩ ⟨by omega, by omega⟩ (by decide) (pc' := 111) rfl (fun c108 => ?_) (fun c108 => ?_)
                    · refine X.iload (i := 7) rfl dX0_secondLast_120 (pc' := 122) rfl ?_
                      refine X.istore (i := 6) (ls' := [some (rf b), some (vi s), some (vi t), some (rf ((b + 8 + (s).toNat))), some (vi e), some (vi l), some (vi n), some (vi n), some (vi came)]) (hd := dX0_secondLast_122) (by decide) rfl rfl (pc' := 124) rfl ?_
                      refine X.iinc (i := 7) (ls' := [some (rf b), some (vi s), some (vi t), some (rf ((b + 8 + (s).toNat))), some (vi e), some (vi l), some (vi n), some (vi (n + (-1))), some (vi came)]) dX0_secondLast_124 rfl (by decide) rfl rfl (pc' := 127) rfl ?_
                      refine X.goto (tgt := 31) dX0_secondLast_127 (by decide) ?_
                      refine X.mask (bs := [true, true, true, true, true, true, true, true, false]) (ls' := [some (rf b), some (vi s), some (vi t), some (rf ((b + 8 + (s).toNat))), some (vi e), some (vi l), some (vi n), some (vi (n + (-1))), none]) rfl ?_
                      refine ih31 (n + (-1)) l n (by omega) ?_
                      refine ⟨by omega, by omega, ?_⟩
                      have hv : vOk (aCo A s) (aSt A 2) t n := ⟨by omega, by omega, by omega⟩
                      have hdn := hT.down (P' := fun k => (n + -1 < k ∧ k < aW A) ∧ vOk (aCo A s) (aSt A 2) t k) (n := n) (by omega) (fun k hk => hk.1.1) ⟨by omega, hv⟩ (fun k => ⟨fun hk => by
                        by_cases e9 : k = n
                        · exact Or.inl e9
                        · exact Or.inr ⟨by have := hk.1; omega, hk.2⟩, fun hk => by
                        rcases hk with rfl | hk
                        · exact ⟨by omega, hv⟩
                        · exact ⟨by have := hk.1; omega, hk.2⟩⟩)
                      rw [if_neg (by omega), if_neg (by omega), if_pos (by omega)] at hdn
                      exact hdn
                    · refine X.iload (i := 8) rfl dX0_secondLast_111 (pc' := 113) rfl ?_
                      refine X.aload_n (i := 3) rfl rfl dX0_secondLast_113 (pc' := 114) rfl ?_
                      refine X.iload (i := 6) rfl dX0_secondLast_114 (pc' := 116) rfl ?_
                      refine X.iald (x := aCo A s r) dX0_secondLast_116 (hR.1.2.2.2.2.2.2.2.2.2.2.2.1 (s) (by omega) (by omega)).2 (by omega) (by omega) ⟨by omega, by omega⟩ (hR.2.2.2.2.2.2.2.2.2.2 s r (by omega) (by omega) (by omega) (by omega)) (pc' := 117) rfl (fun r7 => ?_)
                      obtain ⟨r7a, r7b⟩ := r7
                      have r7c := hR.2.1.2.2.2.2.2.2.1 s r (by omega) (by omega) (by omega) (by omega)
                      refine X.icmp_le (tgt := 124) dX0_secondLast_117 ⟨by omega, by omega⟩ ⟨by omega, by omega⟩ (by decide) (pc' := 120) rfl (fun c117 => ?_) (fun c117 => ?_)
                      · refine X.iinc (i := 7) (ls' := [some (rf b), some (vi s), some (vi t), some (rf ((b + 8 + (s).toNat))), some (vi e), some (vi l), some (vi r), some (vi (n + (-1))), some (vi came)]) dX0_secondLast_124 rfl (by decide) rfl rfl (pc' := 127) rfl ?_
                        refine X.goto (tgt := 31) dX0_secondLast_127 (by decide) ?_
                        refine X.mask (bs := [true, true, true, true, true, true, true, true, false]) (ls' := [some (rf b), some (vi s), some (vi t), some (rf ((b + 8 + (s).toNat))), some (vi e), some (vi l), some (vi r), some (vi (n + (-1))), none]) rfl ?_
                        refine ih31 (n + (-1)) l r (by omega) ?_
                        refine ⟨by omega, by omega, ?_⟩
                        have hv : vOk (aCo A s) (aSt A 2) t n := ⟨by omega, by omega, by omega⟩
                        have hdn := hT.down (P' := fun k => (n + -1 < k ∧ k < aW A) ∧ vOk (aCo A s) (aSt A 2) t k) (n := n) (by omega) (fun k hk => hk.1.1) ⟨by omega, hv⟩ (fun k => ⟨fun hk => by
                          by_cases e9 : k = n
                          · exact Or.inl e9
                          · exact Or.inr ⟨by have := hk.1; omega, hk.2⟩, fun hk => by
                          rcases hk with rfl | hk
                          · exact ⟨by omega, hv⟩
                          · exact ⟨by have := hk.1; omega, hk.2⟩⟩)
                        rw [if_neg (by omega), if_neg (by omega), if_neg (by omega)] at hdn
                        exact hdn
                      · refine X.iload (i := 7) rfl dX0_secondLast_120 (pc' := 122) rfl ?_
                        refine X.istore (i := 6) (ls' := [some (rf b), some (vi s), some (vi t), some (rf ((b + 8 + (s).toNat))), some (vi e), some (vi l), some (vi n), some (vi n), some (vi came)]) (hd := dX0_secondLast_122) (by decide) rfl rfl (pc' := 124) rfl ?_
                        refine X.iinc (i := 7) (ls' := [some (rf b), some (vi s), some (vi t), some (rf ((b + 8 + (s).toNat))), some (vi e), some (vi l), some (vi n), some (vi (n + (-1))), some (vi came)]) dX0_secondLast_124 rfl (by decide) rfl rfl (pc' := 127) rfl ?_
                        refine X.goto (tgt := 31) dX0_secondLast_127 (by decide) ?_
                        refine X.mask (bs := [true, true, true, true, true, true, true, true, false]) (ls' := [some (rf b), some (vi s), some (vi t), some (rf ((b + 8 + (s).toNat))), some (vi e), some (vi l), some (vi n), some (vi (n + (-1))), none]) rfl ?_
                        refine ih31 (n + (-1)) l n (by omega) ?_
                        refine ⟨by omega, by omega, ?_⟩
                        have hv : vOk (aCo A s) (aSt A 2) t n := ⟨by omega, by omega, by omega⟩
                        have hdn := hT.down (P' := fun k => (n + -1 < k ∧ k < aW A) ∧ vOk (aCo A s) (aSt A 2) t k) (n := n) (by omega) (fun k hk => hk.1.1) ⟨by omega, hv⟩ (fun k => ⟨fun hk => by
                          by_cases e9 : k = n
                          · exact Or.inl e9
                          · exact Or.inr ⟨by have := hk.1; omega, hk.2⟩, fun hk => by
                          rcases hk with rfl | hk
                          · exact ⟨by omega, hv⟩
                          · exact ⟨by have := hk.1; omega, hk.2⟩⟩)
                        rw [if_neg (by omega), if_neg (by omega), if_pos (by omega)] at hdn
                        exact hdn
                  · refine X.iload (i := 5) rfl dX0_secondLast_94 (pc' := 96) rfl ?_
                    refine X.istore (i := 6) (ls' := [some (rf b), some (vi s), some (vi t), some (rf ((b + 8 + (s).toNat))), some (vi e), some (vi l), some (vi l), some (vi n), some (vi came)]) (hd := dX0_secondLast_96) (by decide) rfl rfl (pc' := 98) rfl ?_
                    refine X.iload (i := 7) rfl dX0_secondLast_98 (pc' := 100) rfl ?_
                    refine X.istore (i := 5) (ls' := [some (rf b), some (vi s), some (vi t), some (rf ((b + 8 + (s).toNat))), some (vi e), some (vi n), some (vi l), some (vi n), some (vi came)]) (hd := dX0_secondLast_100) (by decide) rfl rfl (pc' := 102) rfl ?_
                    refine X.goto (tgt := 124) dX0_secondLast_102 (by decide) ?_
                    refine X.iinc (i := 7) (ls' := [some (rf b), some (vi s), some (vi t), some (rf ((b + 8 + (s).toNat))), some (vi e), some (vi n), some (vi l), some (vi (n + (-1))), some (vi came)]) dX0_secondLast_124 rfl (by decide) rfl rfl (pc' := 127) rfl ?_
                    refine X.goto (tgt := 31) dX0_secondLast_127 (by decide) ?_
                    refine X.mask (bs := [true, true, true, true, true, true, true, true, false]) (ls' := [some (rf b), some (vi s), some (vi t), some (rf ((b + 8 + (s).toNat))), some (vi e), some (vi n), some (vi l), some (vi (n + (-1))), none]) rfl ?_
                    refine ih31 (n + (-1)) n l (by omega) ?_
                    refine ⟨by omega, by omega, ?_⟩
                    have hv : vOk (aCo A s) (aSt A 2) t n := ⟨by omega, by omega, by omega⟩
                    have hdn := hT.down (P' := fun k => (n + -1 < k ∧ k < aW A) ∧ vOk (aCo A s) (aSt A 2) t k) (n := n) (by omega) (fun k hk => hk.1.1) ⟨by omega, hv⟩ (fun k => ⟨fun hk => by
                      by_cases e9 : k = n
                      · exact Or.inl e9
                      · exact Or.inr ⟨by have := hk.1; omega, hk.2⟩, fun hk => by
                      rcases hk with rfl | hk
                      · exact ⟨by omega, hv⟩
                      · exact ⟨by have := hk.1; omega, hk.2⟩⟩)
                    rw [if_pos (by omega), if_pos (by omega)] at hdn
                    exact hdn
              · refine X.goto (tgt := 124) dX0_secondLast_76 (by decide) ?_
                refine X.iinc (i := 7) (ls' := [some (rf b), some (vi s), some (vi t), some (rf ((b + 8 + (s).toNat))), some (vi e), some (vi l), some (vi r), some (vi (n + (-1))), some (vi came)]) dX0_secondLast_124 rfl (by decide) rfl rfl (pc' := 127) rfl ?_
                refine X.goto (tgt := 31) dX0_secondLast_127 (by decide) ?_
                refine X.mask (bs := [true, true, true, true, true, true, true, true, false]) (ls' := [some (rf b), some (vi s), some (vi t), some (rf ((b + 8 + (s).toNat))), some (vi e), some (vi l), some (vi r), some (vi (n + (-1))), none]) rfl ?_
                refine ih31 (n + (-1)) l r (by omega) ?_
                refine ⟨by omega, by omega, ?_⟩
                refine hT.skip (fun k => ⟨fun hk => ⟨?_, hk.2⟩, fun hk => ⟨by have := hk.1; omega, hk.2⟩⟩)
                have hk1 := hk.1
                have hk2 := hk.2
                unfold vOk at hk2
                by_cases e9 : k = n
                · subst e9; exfalso; omega
                · omega
  refine L31 _ x3 ((-1)) ((-1)) (Nat.lt_succ_self _) ?_
  exact ⟨by omega, by omega, Or.inl ⟨rfl, rfl, fun k hk => by have := hk.1; omega⟩⟩
