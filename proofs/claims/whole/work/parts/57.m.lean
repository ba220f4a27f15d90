set_option maxHeartbeats 4000000 in
set_option maxRecDepth 100000 in
theorem k_X6_ofWord {Ω : xO} {h : xM} {m : Nat} {A : aS} {n w : Int} (hS : MoS h m) (hM : RM h (m + 1) 0 A) (hA : aOK A) (hn : 0 ≤ n ∧ n < 2147483648) (hw : 0 ≤ w ∧ w ≤ 5) : xCt Ω yX6_ofWord cX6_ofWord 3 (some .int) rm_X6_ofWord [rf m, vi n, vi w] h (fun q h' => h = h' ∧ ∃ r, q = some (vi r) ∧ r = if n < aW A then oWd A n w else -1) xNo := by
  refine xCt_of (ini := false) (by decide +kernel) (Nat.le_of_ble_eq_true rfl) (fun q => absurd q (by decide)) ?_
  generalize hPR : (fun q h' => h = h' ∧ ∃ r, q = some (vi r) ∧ r = if n < aW A then oWd A n w else -1 : Option xV → xM → Prop) = PR
  have K0 : X Ω RX6 cX6_ofWord 3 (some .int) false rm_X6_ofWord PR xNo 0 0 0 [some (rf m), some (vi n), some (vi w)] [] h := ?_
  exact K0
  obtain ⟨mSt, mB, mW, mWl, mWo, mCo, mHe⟩ := id hM
  obtain ⟨okB, okN, okWl, okS, okW, okM, okC, okH⟩ := id hA
  refine X.iload_n (i := 1) rfl rfl dX6_ofWord_0 (pc' := 1) rfl ?_
  refine X.aload_n (i := 0) rfl rfl dX6_ofWord_1 (pc' := 2) rfl ?_
  refine X.getR fk_X6_8 xcl_6 dX6_ofWord_2 hS.1 hS.2.1 (pc' := 5) rfl ?_
  refine X.iconst dX6_ofWord_5 (pc' := 6) rfl ?_
  refine X.iald (x := aW A) dX6_ofWord_6 hS.2.2.1 (by omega) (by omega) ⟨by omega, by omega⟩ (mI_at mW (by omega)) (pc' := 7) rfl (fun r1 => ?_)
  obtain ⟨r1a, r1b⟩ := r1
  refine X.icmp_lt (tgt := 12) dX6_ofWord_7 ⟨by omega, by omega⟩ ⟨by omega, by omega⟩ (by decide) (pc' := 10) rfl (fun c7 => ?_) (fun c7 => ?_)
  · refine X.iload_n (i := 2) rfl rfl dX6_ofWord_12 (pc' := 13) rfl ?_
    refine X.iconst dX6_ofWord_13 (pc' := 14) rfl ?_
    refine X.icmp_ne (tgt := 25) dX6_ofWord_14 ⟨by omega, by omega⟩ ⟨by omega, by omega⟩ (by decide) (pc' := 17) rfl (fun c14 => ?_) (fun c14 => ?_)
    · refine X.iload_n (i := 2) rfl rfl dX6_ofWord_25 (pc' := 26) rfl ?_
      refine X.iconst dX6_ofWord_26 (pc' := 27) rfl ?_
      refine X.icmp_ne (tgt := 38) dX6_ofWord_27 ⟨by omega, by omega⟩ ⟨by omega, by omega⟩ (by decide) (pc' := 30) rfl (fun c27 => ?_) (fun c27 => ?_)
      · refine X.aload_n (i := 0) rfl rfl dX6_ofWord_38 (pc' := 39) rfl ?_
        refine X.iload_n (i := 1) rfl rfl dX6_ofWord_39 (pc' := 40) rfl ?_
        refine X.iload_n (i := 2) rfl rfl dX6_ofWord_40 (pc' := 41) rfl ?_
        refine X.callV (ci := 6) (a := m) (rm := rm_X6_part) (As := [vi n, vi w]) (st := []) dX6_ofWord_41 ck_X6_40 rfl (by decide) hS.1 rfl rfl ⟨Nat.le_of_ble_eq_true rfl, Nat.le_of_ble_eq_true rfl⟩ (Nat.le_of_ble_eq_true rfl) (Nat.le_of_ble_eq_true rfl) (Nat.le_of_ble_eq_true rfl) (pc' := 44) rfl (k_X6_part hS (by omega) (by omega)) (fun q2 hq2 eq2 => ?_) (fun _ _ x1 => x1.elim)
        obtain ⟨rfl, x, rfl, hx⟩ := eq2
        have hwd := mWo n (by omega) (by omega)
        refine X.iret dX6_ofWord_44 (Or.inl rfl) (Nat.le_of_ble_eq_true rfl) (Nat.le_of_ble_eq_true rfl) ?_
        subst hPR
        refine ⟨rfl, _, rfl, ?_⟩
        rw [if_pos (by omega)]
        rw [hx]
        rcases (show w = 0 ∨ w = 1 ∨ w = 2 ∨ w = 3 by omega) with rfl | rfl | rfl | rfl
        · exact mI_at hwd.1 (by omega)
        · exact mI_at hwd.2.1 (by omega)
        · exact mI_at hwd.2.2.1 (by omega)
        · exact mI_at hwd.2.2.2 (by omega)
      · refine X.aload_n (i := 0) rfl rfl dX6_ofWord_30 (pc' := 31) rfl ?_
        refine X.iload_n (i := 1) rfl rfl dX6_ofWord_31 (pc' := 32) rfl ?_
        refine X.callV (ci := 6) (a := m) (rm := rm_X6_hearers) (As := [vi n]) (st := []) dX6_ofWord_32 ck_X6_126 rfl (by decide) hS.1 rfl rfl ⟨Nat.le_of_ble_eq_true rfl, Nat.le_of_ble_eq_true rfl⟩ (Nat.le_of_ble_eq_true rfl) (Nat.le_of_ble_eq_true rfl) (Nat.le_of_ble_eq_true rfl) (pc' := 35) rfl (k_X6_hearers hS hM hA (by omega)) (fun q3 hq3 eq3 => ?_) (fun _ _ x1 => x1.elim)
        obtain ⟨rfl, r4, rfl, hr4⟩ := eq3
        refine X.goto (tgt := 44) dX6_ofWord_35 (by decide) ?_
        refine X.iret dX6_ofWord_44 (Or.inl rfl) (Nat.le_of_ble_eq_true rfl) (Nat.le_of_ble_eq_true rfl) ?_
        subst hPR
        refine ⟨rfl, _, rfl, ?_⟩
        rw [if_pos (by omega)]
        have e : w = 5 := by omega
        subst e
        exact hr4
    · refine X.aload_n (i := 0) rfl rfl dX6_ofWord_17 (pc' := 18) rfl ?_
      refine X.iload_n (i := 1) rfl rfl dX6_ofWord_18 (pc' := 19) rfl ?_
      refine X.callV (ci := 6) (a := m) (rm := rm_X6_reached) (As := [vi n]) (st := []) dX6_ofWord_19 ck_X6_123 rfl (by decide) hS.1 rfl rfl ⟨Nat.le_of_ble_eq_true rfl, Nat.le_of_ble_eq_true rfl⟩ (Nat.le_of_ble_eq_true rfl) (Nat.le_of_ble_eq_true rfl) (Nat.le_of_ble_eq_true rfl) (pc' := 22) rfl (k_X6_reached hS hM hA (by omega)) (fun q5 hq5 eq5 => ?_) (fun _ _ x1 => x1.elim)
      obtain ⟨rfl, r6, rfl, hr6⟩ := eq5
      refine X.goto (tgt := 44) dX6_ofWord_22 (by decide) ?_
      refine X.iret dX6_ofWord_44 (Or.inl rfl) (Nat.le_of_ble_eq_true rfl) (Nat.le_of_ble_eq_true rfl) ?_
      subst hPR
      refine ⟨rfl, _, rfl, ?_⟩
      rw [if_pos (by omega)]
      have e : w = 4 := by omega
      subst e
      exact hr6
  · refine X.iconst dX6_ofWord_10 (pc' := 11) rfl ?_
    refine X.iret dX6_ofWord_11 (Or.inl rfl) (Nat.le_of_ble_eq_true rfl) (Nat.le_of_ble_eq_true rfl) ?_
    subst hPR
    exact ⟨rfl, _, rfl, by rw [if_neg (by omega)]⟩
set_option maxHeartbeats 4000000 in
set_option maxRecDepth 100000 in
theorem k_X6_comesTo {Ω : xO} {h : xM} {m : Nat} {A : aS} {n s : Int} (hS : MoS h m) (hM : RM h (m + 1) 0 A) (hA : aOK A) (hn : 0 ≤ n ∧ n < 2147483648) (hs : 0 ≤ s ∧ s < 6) : xCt Ω yX6_comesTo cX6_comesTo 3 (some .int) rm_X6_comesTo [rf m, vi n, vi s] h (fun q h' => h = h' ∧ ∃ r, q = some (vi r) ∧ r = if n < aW A then aCo A s n else -1) xNo := by
  refine xCt_of (ini := false) (by decide +kernel) (Nat.le_of_ble_eq_true rfl) (fun q => absurd q (by decide)) ?_
  generalize hPR : (fun q h' => h = h' ∧ ∃ r, q = some (vi r) ∧ r = if n < aW A then aCo A s n else -1 : Option xV → xM → Prop) = PR
  have K0 : X Ω RX6 cX6_comesTo 3 (some .int) false rm_X6_comesTo PR xNo 0 0 0 [some (rf m), some (vi n), some (vi s)] [] h := ?_
  exact K0
  obtain ⟨mSt, mB, mW, mWl, mWo, mCo, mHe⟩ := id hM
  obtain ⟨okB, okN, okWl, okS, okW, okM, okC, okH⟩ := id hA
  refine X.iload_n (i := 1) rfl rfl dX6_comesTo_0 (pc' := 1) rfl ?_
  refine X.aload_n (i := 0) rfl rfl dX6_comesTo_1 (pc' := 2) rfl ?_
  refine X.getR fk_X6_8 xcl_6 dX6_comesTo_2 hS.1 hS.2.1 (pc' := 5) rfl ?_
  refine X.iconst dX6_comesTo_5 (pc' := 6) rfl ?_
  refine X.iald (x := aW A) dX6_comesTo_6 hS.2.2.1 (by omega) (by omega) ⟨by omega, by omega⟩ (mI_at mW (by omega)) (pc' := 7) rfl (fun r1 => ?_)
  obtain ⟨r1a, r1b⟩ := r1
  refine X.icmp_lt (tgt := 14) dX6_comesTo_7 ⟨by omega, by omega⟩ ⟨by omega, by omega⟩ (by decide) (pc' := 10) rfl (fun c7 => ?_) (fun c7 => ?_)
  · refine X.aload_n (i := 0) rfl rfl dX6_comesTo_14 (pc' := 15) rfl ?_
    refine X.iload_n (i := 1) rfl rfl dX6_comesTo_15 (pc' := 16) rfl ?_
    refine X.iconst dX6_comesTo_16 (pc' := 17) rfl ?_
    refine X.iload_n (i := 2) rfl rfl dX6_comesTo_17 (pc' := 18) rfl ?_
    refine X.iadd dX6_comesTo_18 (pc' := 19) rfl ?_
    refine X.callV (ci := 6) (a := m) (rm := rm_X6_part) (As := [vi n, vi (4 + s)]) (st := []) dX6_comesTo_19 ck_X6_40 rfl (by decide) hS.1 rfl rfl ⟨Nat.le_of_ble_eq_true rfl, Nat.le_of_ble_eq_true rfl⟩ (Nat.le_of_ble_eq_true rfl) (Nat.le_of_ble_eq_true rfl) (Nat.le_of_ble_eq_true rfl) (pc' := 22) rfl (k_X6_part hS (by omega) (by omega)) (fun q2 hq2 eq2 => ?_) (fun _ _ x1 => x1.elim)
    obtain ⟨rfl, x, rfl, hx⟩ := eq2
    refine X.iret dX6_comesTo_22 (Or.inl rfl) (Nat.le_of_ble_eq_true rfl) (Nat.le_of_ble_eq_true rfl) ?_
    subst hPR
    exact ⟨rfl, _, rfl, by rw [if_pos (by omega), hx]; exact mI_at (mCo s n (by omega) (by omega) (by omega) (by omega)) (by omega)⟩
  · refine X.iconst dX6_comesTo_10 (pc' := 11) rfl ?_
    refine X.goto (tgt := 22) dX6_comesTo_11 (by decide) ?_
    refine X.iret dX6_comesTo_22 (Or.inl rfl) (Nat.le_of_ble_eq_true rfl) (Nat.le_of_ble_eq_true rfl) ?_
    subst hPR
    exact ⟨rfl, _, rfl, by rw [if_neg (by omega)]⟩
set_option maxHeartbeats 4000000 in
set_option maxRecDepth 100000 in
theorem k_X6_ofHeard {Ω : xO} {h : xM} {m : Nat} {A : aS} {s k w : Int} (hS : MoS h m) (hM : RM h (m + 1) 0 A) (hA : aOK A) (hs : 0 ≤ s ∧ s < 6) (hk : 0 ≤ k ∧ k < 2147483648) (hw : 0 ≤ w ∧ w ≤ 2) : xCt Ω yX6_ofHeard cX6_ofHeard 5 (some .int) rm_X6_ofHeard [rf m, vi s, vi k, vi w] h (fun q h' => h = h' ∧ ∃ r, q = some (vi r) ∧ r = if k < aB A then oBt A s k w else -1) xNo := by
  refine xCt_of (ini := false) (by decide +kernel) (Nat.le_of_ble_eq_true rfl) (fun q => absurd q (by decide)) ?_
  generalize hPR : (fun q h' => h = h' ∧ ∃ r, q = some (vi r) ∧ r = if k < aB A then oBt A s k w else -1 : Option xV → xM → Prop) = PR
  have K0 : X Ω RX6 cX6_ofHeard 5 (some .int) false rm_X6_ofHeard PR xNo 0 0 0 [some (rf m), some (vi s), some (vi k), some (vi w), none] [] h := ?_
  exact K0
  obtain ⟨mSt, mB, mW, mWl, mWo, mCo, mHe⟩ := id hM
  obtain ⟨okB, okN, okWl, okS, okW, okM, okC, okH⟩ := id hA
  refine X.aload_n (i := 0) rfl rfl dX6_ofHeard_0 (pc' := 1) rfl ?_
  refine X.iload_n (i := 1) rfl rfl dX6_ofHeard_1 (pc' := 2) rfl ?_
  refine X.iload_n (i := 2) rfl rfl dX6_ofHeard_2 (pc' := 3) rfl ?_
  refine X.callV (ci := 6) (a := m) (rm := rm_X6_heardAt) (As := [vi s, vi k]) (st := []) dX6_ofHeard_3 ck_X6_135 rfl (by decide) hS.1 rfl rfl ⟨Nat.le_of_ble_eq_true rfl, Nat.le_of_ble_eq_true rfl⟩ (Nat.le_of_ble_eq_true rfl) (Nat.le_of_ble_eq_true rfl) (Nat.le_of_ble_eq_true rfl) (pc' := 6) rfl (k_X6_heardAt hS hM hA hs ⟨by omega, by omega⟩) (fun q1 hq1 eq1 => ?_) (fun _ _ x1 => x1.elim)
  obtain ⟨rfl, x, rfl, hx⟩ := eq1
  have hx2 : (k < aB A ∧ x = aHe A s k ∧ (aHe A s k = -1 ∨ (0 ≤ aHe A s k ∧ aHe A s k < aW A))) ∨ (aB A ≤ k ∧ x = -1) := by
    by_cases e : 0 ≤ k ∧ k < aB A
    · rw [if_pos e] at hx
      have := okH s k (by omega) (by omega) (by omega) (by omega)
      omega
    · rw [if_neg e] at hx
      omega
  refine X.istore (i := 4) (ls' := [some (rf m), some (vi s), some (vi k), some (vi w), some (vi x)]) (hd := dX6_ofHeard_6) (by decide) rfl rfl (pc' := 8) rfl ?_
  refine X.iload (i := 4) rfl dX6_ofHeard_8 (pc' := 10) rfl ?_
  refine X.if_ge (tgt := 15) dX6_ofHeard_10 ⟨by omega, by omega⟩ (by decide) (pc' := 13) rfl (fun c10 => ?_) (fun c10 => ?_)
  · have hx3 : x = aHe A s k := by omega
    refine X.iload_n (i := 3) rfl rfl dX6_ofHeard_15 (pc' := 16) rfl ?_
    refine X.if_ne (tgt := 24) dX6_ofHeard_16 ⟨by omega, by omega⟩ (by decide) (pc' := 19) rfl (fun c16 => ?_) (fun c16 => ?_)
    · refine X.iload_n (i := 3) rfl rfl dX6_ofHeard_24 (pc' := 25) rfl ?_
      refine X.iconst dX6_ofHeard_25 (pc' := 26) rfl ?_
      refine X.icmp_ne (tgt := 39) dX6_ofHeard_26 ⟨by omega, by omega⟩ ⟨by omega, by omega⟩ (by decide) (pc' := 29) rfl (fun c26 => ?_) (fun c26 => ?_)
      · refine X.aload_n (i := 0) rfl rfl dX6_ofHeard_39 (pc' := 40) rfl ?_
        refine X.iload_n (i := 1) rfl rfl dX6_ofHeard_40 (pc' := 41) rfl ?_
        refine X.iload_n (i := 2) rfl rfl dX6_ofHeard_41 (pc' := 42) rfl ?_
        refine X.iconst dX6_ofHeard_42 (pc' := 43) rfl ?_
        refine X.isub dX6_ofHeard_43 (pc' := 44) rfl ?_
        refine X.callV (ci := 6) (a := m) (rm := rm_X6_heardAt) (As := [vi s, vi (k - 1)]) (st := []) dX6_ofHeard_44 ck_X6_135 rfl (by decide) hS.1 rfl rfl ⟨Nat.le_of_ble_eq_true rfl, Nat.le_of_ble_eq_true rfl⟩ (Nat.le_of_ble_eq_true rfl) (Nat.le_of_ble_eq_true rfl) (Nat.le_of_ble_eq_true rfl) (pc' := 47) rfl (k_X6_heardAt hS hM hA hs ⟨by omega, by omega⟩) (fun q2 hq2 eq2 => ?_) (fun _ _ x1 => x1.elim)
        obtain ⟨rfl, y, rfl, hy⟩ := eq2
        have hy2 : (0 < k ∧ y = aHe A s (k - 1) ∧ (aHe A s (k - 1) = -1 ∨ (0 ≤ aHe A s (k - 1) ∧ aHe A s (k - 1) < aW A))) ∨ (k = 0 ∧ y = -1) := by
          by_cases e : 0 ≤ k - 1 ∧ k - 1 < aB A
          · rw [if_pos e] at hy
            have := okH s (k - 1) (by omega) (by omega) (by omega) (by omega)
            omega
          · rw [if_neg e] at hy
            omega
        refine X.iload (i := 4) rfl dX6_ofHeard_47 (pc' := 49) rfl ?_
        refine X.icmp_ne (tgt := 56) dX6_ofHeard_49 ⟨by omega, by omega⟩ ⟨by omega, by omega⟩ (by decide) (pc' := 52) rfl (fun c49 => ?_) (fun c49 => ?_)
        · refine X.iconst dX6_ofHeard_56 (pc' := 57) rfl ?_
          refine X.iret dX6_ofHeard_57 (Or.inl rfl) (Nat.le_of_ble_eq_true rfl) (Nat.le_of_ble_eq_true rfl) ?_
          subst hPR
          refine ⟨rfl, _, rfl, ?_⟩
          rw [if_pos (show k < aB A by omega)]
          unfold oBt
          rw [if_neg (by omega)]
          rw [if_neg (by omega)]
          rw [if_neg (by omega)]
          rw [if_neg (by omega)]
        · refine X.iconst dX6_ofHeard_52 (pc' := 53) rfl ?_
          refine X.goto (tgt := 57) dX6_ofHeard_53 (by decide) ?_
          refine X.iret dX6_ofHeard_57 (Or.inl rfl) (Nat.le_of_ble_eq_true rfl) (Nat.le_of_ble_eq_true rfl) ?_
          subst hPR
          refine ⟨rfl, _, rfl, ?_⟩
          rw [if_pos (show k < aB A by omega)]
          unfold oBt
          rw [if_neg (by omega)]
          rw [if_neg (by omega)]
          rw [if_neg (by omega)]
          rw [if_pos (by omega)]
      · refine X.aload_n (i := 0) rfl rfl dX6_ofHeard_29 (pc' := 30) rfl ?_
        refine X.iload (i := 4) rfl dX6_ofHeard_30 (pc' := 32) rfl ?_
        refine X.iconst dX6_ofHeard_32 (pc' := 33) rfl ?_
        refine X.callV (ci := 6) (a := m) (rm := rm_X6_part) (As := [vi x, vi 1]) (st := []) dX6_ofHeard_33 ck_X6_40 rfl (by decide) hS.1 rfl rfl ⟨Nat.le_of_ble_eq_true rfl, Nat.le_of_ble_eq_true rfl⟩ (Nat.le_of_ble_eq_true rfl) (Nat.le_of_ble_eq_true rfl) (Nat.le_of_ble_eq_true rfl) (pc' := 36) rfl (k_X6_part hS (by omega) (by omega)) (fun q3 hq3 eq3 => ?_) (fun _ _ x1 => x1.elim)
        obtain ⟨rfl, y, rfl, hy⟩ := eq3
        refine X.goto (tgt := 57) dX6_ofHeard_36 (by decide) ?_
        refine X.iret dX6_ofHeard_57 (Or.inl rfl) (Nat.le_of_ble_eq_true rfl) (Nat.le_of_ble_eq_true rfl) ?_
        subst hPR
        refine ⟨rfl, _, rfl, ?_⟩
        rw [if_pos (show k < aB A by omega)]
        unfold oBt
        rw [if_neg (by omega)]
        rw [if_neg (by omega)]
        rw [if_pos (by omega), hy, hx3]; exact mI_at (mWo (aHe A s k) (by omega) (by omega)).2.1 (by omega)
    · refine X.iload (i := 4) rfl dX6_ofHeard_19 (pc' := 21) rfl ?_
      refine X.goto (tgt := 57) dX6_ofHeard_21 (by decide) ?_
      refine X.iret dX6_ofHeard_57 (Or.inl rfl) (Nat.le_of_ble_eq_true rfl) (Nat.le_of_ble_eq_true rfl) ?_
      subst hPR
      refine ⟨rfl, _, rfl, ?_⟩
      rw [if_pos (show k < aB A by omega)]
      unfold oBt
      rw [if_neg (by omega)]
      rw [if_pos (by omega)]; omega
  · refine X.iconst dX6_ofHeard_13 (pc' := 14) rfl ?_
    refine X.iret dX6_ofHeard_14 (Or.inl rfl) (Nat.le_of_ble_eq_true rfl) (Nat.le_of_ble_eq_true rfl) ?_
    subst hPR
    refine ⟨rfl, _, rfl, ?_⟩
    by_cases e0 : k < aB A
    · rw [if_pos e0]
      unfold oBt
      rw [if_pos (by omega)]
    · rw [if_neg e0]
set_option maxHeartbeats 4000000 in
set_option maxRecDepth 100000 in
theorem k_X6_distinct {Ω : xO} {h : xM} {m : Nat} {A : aS} {s : Int} (hS : MoS h m) (hM : RM h (m + 1) 0 A) (hA : aOK A) (hs : 0 ≤ s ∧ s < 6) : xCt Ω yX6_distinct cX6_distinct 4 (some .int) rm_X6_distinct [rf m, vi s] h (fun q h' => h = h' ∧ ∃ r, q = some (vi r) ∧ r = hWd A s) xNo := by
  refine xCt_of (ini := false) (by decide +kernel) (Nat.le_of_ble_eq_true rfl) (fun q => absurd q (by decide)) ?_
  generalize hPR : (fun q h' => h = h' ∧ ∃ r, q = some (vi r) ∧ r = hWd A s : Option xV → xM → Prop) = PR
  have K0 : X Ω RX6 cX6_distinct 4 (some .int) false rm_X6_distinct PR xNo 0 0 0 [some (rf m), some (vi s), none, none] [] h := ?_
  exact K0
  obtain ⟨mSt, mB, mW, mWl, mWo, mCo, mHe⟩ := id hM
  obtain ⟨okB, okN, okWl, okS, okW, okM, okC, okH⟩ := id hA
  refine X.iconst dX6_distinct_0 (pc' := 1) rfl ?_
  refine X.istore_n (i := 2) (ls' := [some (rf m), some (vi s), some (vi 0), none]) (hi := rfl) (hd := dX6_distinct_1) (by decide) rfl rfl (pc' := 2) rfl ?_
  refine X.iconst dX6_distinct_2 (pc' := 3) rfl ?_
  refine X.istore_n (i := 3) (ls' := [some (rf m), some (vi s), some (vi 0), some (vi 0)]) (hi := rfl) (hd := dX6_distinct_3) (by decide) rfl rfl (pc' := 4) rfl ?_
  have L4 : ∀ (n4 : Nat) (c : Int) (k : Int), (aW A - k).toNat < n4 → (0 ≤ k ∧ k ≤ aW A ∧ c = cnt (fun n => fh A s n ≠ -1) (fun _ => inferInstance) k.toNat) → X Ω RX6 cX6_distinct 4 (some .int) false rm_X6_distinct PR xNo 0 0 4 [some (rf m), some (vi s), some (vi c), some (vi k)] [] h := by
    intro n4
    induction n4 with
    | zero => intro c k hm _; exfalso; omega
    | succ n4 ih4 =>
      intro c k hm4 hinv
      obtain ⟨hk0, hkn, hc⟩ := hinv
      refine X.iload_n (i := 3) rfl rfl dX6_distinct_4 (pc' := 5) rfl ?_
      refine X.aload_n (i := 0) rfl rfl dX6_distinct_5 (pc' := 6) rfl ?_
      refine X.getR fk_X6_8 xcl_6 dX6_distinct_6 hS.1 hS.2.1 (pc' := 9) rfl ?_
      refine X.iconst dX6_distinct_9 (pc' := 10) rfl ?_
      refine X.iald (x := aW A) dX6_distinct_10 hS.2.2.1 (by omega) (by omega) ⟨by omega, by omega⟩ (mI_at mW (by omega)) (pc' := 11) rfl (fun r1 => ?_)
      obtain ⟨r1a, r1b⟩ := r1
      refine X.icmp_ge (tgt := 37) dX6_distinct_11 ⟨by omega, by omega⟩ ⟨by omega, by omega⟩ (by decide) (pc' := 14) rfl (fun c11 => ?_) (fun c11 => ?_)
      · refine X.iload_n (i := 2) rfl rfl dX6_distinct_37 (pc' := 38) rfl ?_
        refine X.iret dX6_distinct_38 (Or.inl rfl) (Nat.le_of_ble_eq_true rfl) (Nat.le_of_ble_eq_true rfl) ?_
        subst hPR
        have e : k = aW A := by omega
        subst e
        exact ⟨rfl, _, rfl, hc⟩
      · refine X.iload_n (i := 2) rfl rfl dX6_distinct_14 (pc' := 15) rfl ?_
        refine X.aload_n (i := 0) rfl rfl dX6_distinct_15 (pc' := 16) rfl ?_
        refine X.iload_n (i := 3) rfl rfl dX6_distinct_16 (pc' := 17) rfl ?_
        refine X.iload_n (i := 1) rfl rfl dX6_distinct_17 (pc' := 18) rfl ?_
        refine X.callV (ci := 6) (a := m) (rm := rm_X6_firstHeard) (As := [vi k, vi s]) (st := [vi c]) dX6_distinct_18 ck_X6_120 rfl (by decide) hS.1 rfl rfl ⟨Nat.le_of_ble_eq_true rfl, Nat.le_of_ble_eq_true rfl⟩ (Nat.le_of_ble_eq_true rfl) (Nat.le_of_ble_eq_true rfl) (Nat.le_of_ble_eq_true rfl) (pc' := 21) rfl (k_X6_firstHeard hS hM hA ⟨by omega, by omega⟩ hs) (fun q2 hq2 eq2 => ?_) (fun _ _ x1 => x1.elim)
        obtain ⟨rfl, x, rfl, hx⟩ := eq2
        have hxr := fh_rng hA s k (by omega) (by omega) (by omega) (by omega)
        have okn := okW k (by omega) (by omega)
        refine X.if_lt (tgt := 28) dX6_distinct_21 ⟨by omega, by omega⟩ (by decide) (pc' := 24) rfl (fun c21 => ?_) (fun c21 => ?_)
        · refine X.iconst dX6_distinct_28 (pc' := 29) rfl ?_
          refine X.iadd dX6_distinct_29 (pc' := 30) rfl ?_
          refine X.gen (fun c2 hc2 => ?_)
          refine X.istore_n (i := 2) (ls' := [some (rf m), some (vi s), some (vi c2), some (vi k)]) (hi := rfl) (hd := dX6_distinct_30) (by decide) rfl rfl (pc' := 31) rfl ?_
          refine X.iinc (i := 3) (ls' := [some (rf m), some (vi s), some (vi c2), some (vi (k + 1))]) dX6_distinct_31 rfl (by decide) rfl rfl (pc' := 34) rfl ?_
          refine X.goto (tgt := 4) dX6_distinct_34 (by decide) ?_
          refine ih4 c2 (k + 1) (by omega) ?_
          exact ⟨by omega, by omega, by rw [hc2, Int.add_zero]; exact cnt_out hc hk0 (by (try dsimp only); omega)⟩
        · refine X.iconst dX6_distinct_24 (pc' := 25) rfl ?_
          refine X.goto (tgt := 29) dX6_distinct_25 (by decide) ?_
          refine X.iadd dX6_distinct_29 (pc' := 30) rfl ?_
          refine X.gen (fun c2 hc2 => ?_)
          refine X.istore_n (i := 2) (ls' := [some (rf m), some (vi s), some (vi c2), some (vi k)]) (hi := rfl) (hd := dX6_distinct_30) (by decide) rfl rfl (pc' := 31) rfl ?_
          refine X.iinc (i := 3) (ls' := [some (rf m), some (vi s), some (vi c2), some (vi (k + 1))]) dX6_distinct_31 rfl (by decide) rfl rfl (pc' := 34) rfl ?_
          refine X.goto (tgt := 4) dX6_distinct_34 (by decide) ?_
          refine ih4 c2 (k + 1) (by omega) ?_
          exact ⟨by omega, by omega, by rw [hc2]; exact cnt_in hc hk0 (by (try dsimp only); omega)⟩
  refine L4 _ 0 0 (Nat.lt_succ_self _) ?_
  exact ⟨by omega, by omega, rfl⟩
set_option maxHeartbeats 4000000 in
set_option maxRecDepth 100000 in
theorem k_X6_wordsOf {Ω : xO} {h : xM} {m : Nat} {A : aS} {s : Int} (hS : MoS h m) (hM : RM h (m + 1) 0 A) (hA : aOK A) (hs : 0 ≤ s ∧ s < 6) : xCt Ω yX6_wordsOf cX6_wordsOf 4 (some .int) rm_X6_wordsOf [rf m, vi s] h (fun q h' => h = h' ∧ ∃ r, q = some (vi r) ∧ r = sBy A s) xNo := by
  refine xCt_of (ini := false) (by decide +kernel) (Nat.le_of_ble_eq_true rfl) (fun q => absurd q (by decide)) ?_
  generalize hPR : (fun q h' => h = h' ∧ ∃ r, q = some (vi r) ∧ r = sBy A s : Option xV → xM → Prop) = PR
  have K0 : X Ω RX6 cX6_wordsOf 4 (some .int) false rm_X6_wordsOf PR xNo 0 0 0 [some (rf m), some (vi s), none, none] [] h := ?_
  exact K0
  obtain ⟨mSt, mB, mW, mWl, mWo, mCo, mHe⟩ := id hM
  obtain ⟨okB, okN, okWl, okS, okW, okM, okC, okH⟩ := id hA
  refine X.iconst dX6_wordsOf_0 (pc' := 1) rfl ?_
  refine X.istore_n (i := 2) (ls' := [some (rf m), some (vi s), some (vi 0), none]) (hi := rfl) (hd := dX6_wordsOf_1) (by decide) rfl rfl (pc' := 2) rfl ?_
  refine X.iconst dX6_wordsOf_2 (pc' := 3) rfl ?_
  refine X.istore_n (i := 3) (ls' := [some (rf m), some (vi s), some (vi 0), some (vi 0)]) (hi := rfl) (hd := dX6_wordsOf_3) (by decide) rfl rfl (pc' := 4) rfl ?_
  have L4 : ∀ (n4 : Nat) (c : Int) (k : Int), (aW A - k).toNat < n4 → (0 ≤ k ∧ k ≤ aW A ∧ c = cnt (fun n => aSe A n = s) (fun _ => inferInstance) k.toNat) → X Ω RX6 cX6_wordsOf 4 (some .int) false rm_X6_wordsOf PR xNo 0 0 4 [some (rf m), some (vi s), some (vi c), some (vi k)] [] h := by
    intro n4
    induction n4 with
    | zero => intro c k hm _; exfalso; omega
    | succ n4 ih4 =>
      intro c k hm4 hinv
      obtain ⟨hk0, hkn, hc⟩ := hinv
      refine X.iload_n (i := 3) rfl rfl dX6_wordsOf_4 (pc' := 5) rfl ?_
      refine X.aload_n (i := 0) rfl rfl dX6_wordsOf_5 (pc' := 6) rfl ?_
      refine X.getR fk_X6_8 xcl_6 dX6_wordsOf_6 hS.1 hS.2.1 (pc' := 9) rfl ?_
      refine X.iconst dX6_wordsOf_9 (pc' := 10) rfl ?_
      refine X.iald (x := aW A) dX6_wordsOf_10 hS.2.2.1 (by omega) (by omega) ⟨by omega, by omega⟩ (mI_at mW (by omega)) (pc' := 11) rfl (fun r1 => ?_)
      obtain ⟨r1a, r1b⟩ := r1
      refine X.icmp_ge (tgt := 38) dX6_wordsOf_11 ⟨by omega, by omega⟩ ⟨by omega, by omega⟩ (by decide) (pc' := 14) rfl (fun c11 => ?_) (fun c11 => ?_)
      · refine X.iload_n (i := 2) rfl rfl dX6_wordsOf_38 (pc' := 39) rfl ?_
        refine X.iret dX6_wordsOf_39 (Or.inl rfl) (Nat.le_of_ble_eq_true rfl) (Nat.le_of_ble_eq_true rfl) ?_
        subst hPR
        have e : k = aW A := by omega
        subst e
        exact ⟨rfl, _, rfl, hc⟩
      · refine X.iload_n (i := 2) rfl rfl dX6_wordsOf_14 (pc' := 15) rfl ?_
        refine X.aload_n (i := 0) rfl rfl dX6_wordsOf_15 (pc' := 16) rfl ?_
        refine X.iload_n (i := 3) rfl rfl dX6_wordsOf_16 (pc' := 17) rfl ?_
        refine X.iconst dX6_wordsOf_17 (pc' := 18) rfl ?_
        refine X.callV (ci := 6) (a := m) (rm := rm_X6_part) (As := [vi k, vi 0]) (st := [vi c]) dX6_wordsOf_18 ck_X6_40 rfl (by decide) hS.1 rfl rfl ⟨Nat.le_of_ble_eq_true rfl, Nat.le_of_ble_eq_true rfl⟩ (Nat.le_of_ble_eq_true rfl) (Nat.le_of_ble_eq_true rfl) (Nat.le_of_ble_eq_true rfl) (pc' := 21) rfl (k_X6_part hS (by omega) (by omega)) (fun q2 hq2 eq2 => ?_) (fun _ _ x1 => x1.elim)
        obtain ⟨rfl, x, rfl, hx⟩ := eq2
        have hx2 : x = aSe A k := by rw [hx]; exact mI_at (mWo k (by omega) (by omega)).1 (by omega)
        have okn := okW k (by omega) (by omega)
        refine X.iload_n (i := 1) rfl rfl dX6_wordsOf_21 (pc' := 22) rfl ?_
        refine X.icmp_ne (tgt := 29) dX6_wordsOf_22 ⟨by omega, by omega⟩ ⟨by omega, by omega⟩ (by decide) (pc' := 25) rfl (fun c22 => ?_) (fun c22 => ?_)
        · refine X.iconst dX6_wordsOf_29 (pc' := 30) rfl ?_
          refine X.iadd dX6_wordsOf_30 (pc' := 31) rfl ?_
          refine X.gen (fun c2 hc2 => ?_)
          refine X.istore_n (i := 2) (ls' := [some (rf m), some (vi s), some (vi c2), some (vi k)]) (hi := rfl) (hd := dX6_wordsOf_31) (by decide) rfl rfl (pc' := 32) rfl ?_
          refine X.iinc (i := 3) (ls' := [some (rf m), some (vi s), some (vi c2), some (vi (k + 1))]) dX6_wordsOf_32 rfl (by decide) rfl rfl (pc' := 35) rfl ?_
          refine X.goto (tgt := 4) dX6_wordsOf_35 (by decide) ?_
          refine ih4 c2 (k + 1) (by omega) ?_
          exact ⟨by omega, by omega, by rw [hc2, Int.add_zero]; exact cnt_out hc hk0 (by (try dsimp only); omega)⟩
        · refine X.iconst dX6_wordsOf_25 (pc' := 26) rfl ?_
          refine X.goto (tgt := 30) dX6_wordsOf_26 (by decide) ?_
          refine X.iadd dX6_wordsOf_30 (pc' := 31) rfl ?_
          refine X.gen (fun c2 hc2 => ?_)
          refine X.istore_n (i := 2) (ls' := [some (rf m), some (vi s), some (vi c2), some (vi k)]) (hi := rfl) (hd := dX6_wordsOf_31) (by decide) rfl rfl (pc' := 32) rfl ?_
          refine X.iinc (i := 3) (ls' := [some (rf m), some (vi s), some (vi c2), some (vi (k + 1))]) dX6_wordsOf_32 rfl (by decide) rfl rfl (pc' := 35) rfl ?_
          refine X.goto (tgt := 4) dX6_wordsOf_35 (by decide) ?_
          refine ih4 c2 (k + 1) (by omega) ?_
          exact ⟨by omega, by omega, by rw [hc2]; exact cnt_in hc hk0 (by (try dsimp only); omega)⟩
  refine L4 _ 0 0 (Nat.lt_succ_self _) ?_
  exact ⟨by omega, by omega, rfl⟩
