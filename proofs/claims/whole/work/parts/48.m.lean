set_option maxHeartbeats 4000000 in
set_option maxRecDepth 100000 in
theorem k_X6_ends {Ω : xO} {h : xM} {m : Nat} {A : aS} (hS : MoS h m) (hM : RM h (m + 1) 0 A) (hA : aOK A) (hB : aB A < 400) : xCt Ω yX6_ends cX6_ends 2 none rm_X6_ends [rf m] h (fun q h' => q = none ∧ RM h' (m + 1) 0 (aEnd A) ∧ FS h h' m) xNo := by
  refine xCt_of (ini := false) (by decide +kernel) (Nat.le_of_ble_eq_true rfl) (fun q => absurd q (by decide)) ?_
  generalize hPR : (fun q h' => q = none ∧ RM h' (m + 1) 0 (aEnd A) ∧ FS h h' m : Option xV → xM → Prop) = PR
  have K0 : X Ω RX6 cX6_ends 2 none false rm_X6_ends PR xNo 0 0 0 [some (rf m), none] [] h := ?_
  exact K0
  obtain ⟨mSt, mB, mW, mWl, mWo, mCo, mHe⟩ := id hM
  obtain ⟨okB, okN, okWl, okS, okW, okM, okC, okH⟩ := id hA
  refine X.iconst dX6_ends_0 (pc' := 1) rfl ?_
  refine X.istore_n (i := 1) (ls' := [some (rf m), some (vi 0)]) (hi := rfl) (hd := dX6_ends_1) (by decide) rfl rfl (pc' := 2) rfl ?_
  have L2 : ∀ (n2 : Nat) (g : xM) (t : Int), (6 - t).toNat < n2 → (0 ≤ t ∧ t ≤ 6 ∧ FS h g m ∧ (∀ q, 0 ≤ q → q < t → mI g (m + 1) (2011 + 400 * q + aB A) = vce A q (aB A)) ∧ (∀ j, 0 ≤ j → j < 4411 → (∀ q, 0 ≤ q → q < t → j ≠ 2011 + 400 * q + aB A) → mI g (m + 1) j = mI h (m + 1) j)) → X Ω RX6 cX6_ends 2 none false rm_X6_ends PR xNo 0 0 2 [some (rf m), some (vi t)] [] g := by
    intro n2
    induction n2 with
    | zero => intro g t hm _; exfalso; omega
    | succ n2 ih2 =>
      intro g t hm2 hinv
      obtain ⟨ht0, ht6, hF, hv, ho⟩ := hinv
      have hSg : MoS g m := hS.eq hF.1.2.1 hF.1.2.2.1
      have hMg : RM g (m + 1) 0 A := RM_pre hM hA hB (fun j z1 z2 z3 => ho j z1 z2 (fun q y1 y2 => z3 q y1 (by omega)))
      have mBg := hMg.2.1
      refine X.iload_n (i := 1) rfl rfl dX6_ends_2 (pc' := 3) rfl ?_
      refine X.bipush (by decide +kernel) dX6_ends_3 (pc' := 5) rfl ?_
      refine X.icmp_ge (tgt := 46) dX6_ends_5 ⟨by omega, by omega⟩ ⟨by omega, by omega⟩ (by decide) (pc' := 8) rfl (fun c5 => ?_) (fun c5 => ?_)
      · refine X.aload_n (i := 0) rfl rfl dX6_ends_46 (pc' := 47) rfl ?_
        refine X.getR fk_X6_8 xcl_6 dX6_ends_47 hSg.1 hSg.2.1 (pc' := 50) rfl ?_
        refine X.iconst dX6_ends_50 (pc' := 51) rfl ?_
        refine X.dup2 rfl rfl dX6_ends_51 (pc' := 52) rfl ?_
        refine X.iald (x := aB A) dX6_ends_52 hSg.2.2.1 (by omega) (by omega) ⟨by omega, by omega⟩ (mI_at mBg (by omega)) (pc' := 53) rfl (fun r1 => ?_)
        obtain ⟨r1a, r1b⟩ := r1
        refine X.iconst dX6_ends_53 (pc' := 54) rfl ?_
        refine X.iadd dX6_ends_54 (pc' := 55) rfl ?_
        refine X.iast dX6_ends_55 hSg.2.2.1 (by omega) (by omega) ⟨by omega, by omega⟩ ⟨by omega, by omega⟩ (pc' := 56) rfl ?_
        refine X.genH (fun h2 hh2 => ?_)
        have wh2 : ∀ (w0 : Nat) (w1 : Int), mI h2 w0 w1 = if w0 = (m + 1) ∧ w1 = 3 then (aB A) + 1 else mI g w0 w1 := fun _ _ => by rw [hh2]; rfl
        have S3 : MoS h2 m := by rw [hh2]; exact hSg
        refine X.vret dX6_ends_56 rfl (Nat.le_of_ble_eq_true rfl) (Nat.le_of_ble_eq_true rfl) ?_
        subst hPR
        have e : t = 6 := by omega
        subst e
        refine ⟨rfl, RM_end hM hA hB (fun q z1 z2 => ?_) ?_ (fun j z1 z2 z3 z4 => ?_), by rw [hh2]; exact FS.w hF (by omega)⟩
        · rw [wh2, if_neg (by omega)]; exact hv q z1 z2
        · rw [wh2, if_pos ⟨rfl, rfl⟩]
        · rw [wh2, if_neg (by omega)]; exact ho j z1 z2 z4
      · refine X.aload_n (i := 0) rfl rfl dX6_ends_8 (pc' := 9) rfl ?_
        refine X.getR fk_X6_8 xcl_6 dX6_ends_9 hSg.1 hSg.2.1 (pc' := 12) rfl ?_
        refine X.sipush (by decide +kernel) dX6_ends_12 (pc' := 15) rfl ?_
        refine X.sipush (by decide +kernel) dX6_ends_15 (pc' := 18) rfl ?_
        refine X.iload_n (i := 1) rfl rfl dX6_ends_18 (pc' := 19) rfl ?_
        refine X.imul dX6_ends_19 (pc' := 20) rfl ?_
        refine X.iadd dX6_ends_20 (pc' := 21) rfl ?_
        refine X.aload_n (i := 0) rfl rfl dX6_ends_21 (pc' := 22) rfl ?_
        refine X.getR fk_X6_8 xcl_6 dX6_ends_22 hSg.1 hSg.2.1 (pc' := 25) rfl ?_
        refine X.iconst dX6_ends_25 (pc' := 26) rfl ?_
        refine X.iald (x := aB A) dX6_ends_26 hSg.2.2.1 (by omega) (by omega) ⟨by omega, by omega⟩ (mI_at mBg (by omega)) (pc' := 27) rfl (fun r4 => ?_)
        obtain ⟨r4a, r4b⟩ := r4
        refine X.iadd dX6_ends_27 (pc' := 28) rfl ?_
        refine X.aload_n (i := 0) rfl rfl dX6_ends_28 (pc' := 29) rfl ?_
        refine X.iload_n (i := 1) rfl rfl dX6_ends_29 (pc' := 30) rfl ?_
        refine X.aload_n (i := 0) rfl rfl dX6_ends_30 (pc' := 31) rfl ?_
        refine X.getR fk_X6_8 xcl_6 dX6_ends_31 hSg.1 hSg.2.1 (pc' := 34) rfl ?_
        refine X.iconst dX6_ends_34 (pc' := 35) rfl ?_
        refine X.iald (x := aB A) dX6_ends_35 hSg.2.2.1 (by omega) (by omega) ⟨by omega, by omega⟩ (mI_at mBg (by omega)) (pc' := 36) rfl (fun r5 => ?_)
        obtain ⟨r5a, r5b⟩ := r5
        refine X.callV (ci := 6) (a := m) (rm := rm_X6_voice) (As := [vi t, vi (aB A)]) (st := [vi ((2011 + (400 * t)) + (aB A)), rf ((m + 1))]) dX6_ends_36 ck_X6_43 rfl (by decide) hSg.1 rfl rfl ⟨Nat.le_of_ble_eq_true rfl, Nat.le_of_ble_eq_true rfl⟩ (Nat.le_of_ble_eq_true rfl) (Nat.le_of_ble_eq_true rfl) (Nat.le_of_ble_eq_true rfl) (pc' := 39) rfl (k_X6_voice hSg hMg hA ⟨by omega, by omega⟩ ⟨by omega, by omega⟩) (fun q6 hq6 eq6 => ?_) (fun _ _ x1 => x1.elim)
        obtain ⟨rfl, vo, rfl, hvo⟩ := eq6
        have hvr := vce_rng hA t (aB A) (by omega) (by omega)
        refine X.iast dX6_ends_39 hSg.2.2.1 (by omega) (by omega) ⟨by omega, by omega⟩ ⟨by omega, by omega⟩ (pc' := 40) rfl ?_
        refine X.genH (fun h7 hh7 => ?_)
        have wh7 : ∀ (w0 : Nat) (w1 : Int), mI h7 w0 w1 = if w0 = (m + 1) ∧ w1 = (2011 + (400 * t)) + (aB A) then vo else mI g w0 w1 := fun _ _ => by rw [hh7]; rfl
        have S8 : MoS h7 m := by rw [hh7]; exact hSg
        refine X.iinc (i := 1) (ls' := [some (rf m), some (vi (t + 1))]) dX6_ends_40 rfl (by decide) rfl rfl (pc' := 43) rfl ?_
        refine X.goto (tgt := 2) dX6_ends_43 (by decide) ?_
        refine ih2 h7 (t + 1) (by omega) ?_
        refine ⟨by omega, by omega, by rw [hh7]; exact FS.w hF (by omega), fun q z1 z2 => ?_, fun j z1 z2 z3 => ?_⟩
        · rw [wh7]
          by_cases e : q = t
          · subst e; rw [if_pos ⟨rfl, rfl⟩, hvo]
          · rw [if_neg (by omega)]; exact hv q z1 (by omega)
        · rw [wh7, if_neg (by have := z3 t (by omega) (by omega); omega)]
          exact ho j z1 z2 (fun q y1 y2 => z3 q y1 (by omega))
  refine L2 _ h 0 (Nat.lt_succ_self _) ?_
  exact ⟨by omega, by omega, FS.rf, fun q z1 z2 => by omega, fun j z1 z2 z3 => rfl⟩
set_option maxHeartbeats 4000000 in
set_option maxRecDepth 100000 in
theorem k_X6_passes {Ω : xO} {h : xM} {m : Nat} {A : aS} {n : Int} (hS : MoS h m) (hM : RM h (m + 1) 0 A) (hA : aOK A) (hn : 0 ≤ n ∧ aB A + n ≤ 400) (hp : aPast A) : xCt Ω yX6_passes cX6_passes 3 none rm_X6_passes [rf m, vi n] h (fun q h' => q = none ∧ RM h' (m + 1) 0 (aRest A n.toNat) ∧ FS h h' m) xNo := by
  refine xCt_of (ini := false) (by decide +kernel) (Nat.le_of_ble_eq_true rfl) (fun q => absurd q (by decide)) ?_
  generalize hPR : (fun q h' => q = none ∧ RM h' (m + 1) 0 (aRest A n.toNat) ∧ FS h h' m : Option xV → xM → Prop) = PR
  have K0 : X Ω RX6 cX6_passes 3 none false rm_X6_passes PR xNo 0 0 0 [some (rf m), some (vi n), none] [] h := ?_
  exact K0
  obtain ⟨mSt, mB, mW, mWl, mWo, mCo, mHe⟩ := id hM
  obtain ⟨okB, okN, okWl, okS, okW, okM, okC, okH⟩ := id hA
  refine X.iconst dX6_passes_0 (pc' := 1) rfl ?_
  refine X.istore_n (i := 2) (ls' := [some (rf m), some (vi n), some (vi 0)]) (hi := rfl) (hd := dX6_passes_1) (by decide) rfl rfl (pc' := 2) rfl ?_
  have L2 : ∀ (n2 : Nat) (g : xM) (i : Int), (n - i).toNat < n2 → (0 ≤ i ∧ i ≤ n ∧ RM g (m + 1) 0 (aRest A i.toNat) ∧ FS h g m) → X Ω RX6 cX6_passes 3 none false rm_X6_passes PR xNo 0 0 2 [some (rf m), some (vi n), some (vi i)] [] g := by
    intro n2
    induction n2 with
    | zero => intro g i hm _; exfalso; omega
    | succ n2 ih2 =>
      intro g i hm2 hinv
      obtain ⟨hi0, hin, hMg, hF⟩ := hinv
      have hSg : MoS g m := hS.eq hF.1.2.1 hF.1.2.2.1
      have hbe := aB_rest A i.toNat
      have hok := (aPast_rest hA hp i.toNat (by omega)).2
      refine X.iload_n (i := 2) rfl rfl dX6_passes_2 (pc' := 3) rfl ?_
      refine X.iload_n (i := 1) rfl rfl dX6_passes_3 (pc' := 4) rfl ?_
      refine X.icmp_ge (tgt := 17) dX6_passes_4 ⟨by omega, by omega⟩ ⟨by omega, by omega⟩ (by decide) (pc' := 7) rfl (fun c4 => ?_) (fun c4 => ?_)
      · refine X.vret dX6_passes_17 rfl (Nat.le_of_ble_eq_true rfl) (Nat.le_of_ble_eq_true rfl) ?_
        subst hPR
        have e : i = n := by omega
        subst e
        exact ⟨rfl, hMg, hF⟩
      · refine X.aload_n (i := 0) rfl rfl dX6_passes_7 (pc' := 8) rfl ?_
        refine X.callV (ci := 6) (a := m) (rm := rm_X6_ends) (As := []) (st := []) dX6_passes_8 ck_X6_49 rfl (by decide) hSg.1 rfl rfl ⟨Nat.le_of_ble_eq_true rfl, Nat.le_of_ble_eq_true rfl⟩ (Nat.le_of_ble_eq_true rfl) (Nat.le_of_ble_eq_true rfl) (Nat.le_of_ble_eq_true rfl) (pc' := 11) rfl (k_X6_ends hSg hMg hok (by omega)) (fun q1 hq1 eq1 => ?_) (fun _ _ x1 => x1.elim)
        obtain ⟨rfl, hME, hFE⟩ := eq1
        refine X.iinc (i := 2) (ls' := [some (rf m), some (vi n), some (vi (i + 1))]) dX6_passes_11 rfl (by decide) rfl rfl (pc' := 14) rfl ?_
        refine X.goto (tgt := 2) dX6_passes_14 (by decide) ?_
        refine ih2 hq1 (i + 1) (by omega) ?_
        exact ⟨by omega, by omega, by rw [show (i + 1).toNat = i.toNat + 1 by omega]; exact hME, hF.tr hFE⟩
  refine L2 _ h 0 (Nat.lt_succ_self _) ?_
  exact ⟨by omega, by omega, hM, FS.rf⟩
set_option maxHeartbeats 4000000 in
set_option maxRecDepth 100000 in
theorem k_X6_copies {Ω : xO} {h : xM} {m : Nat} {f t : Int} (hS : MoS h m) (hf : 0 ≤ f ∧ f < 8) (ht : 0 ≤ t ∧ t < 8) (hn : f ≠ t) : xCt Ω yX6_copies cX6_copies 4 none rm_X6_copies [rf m, vi f, vi t] h (fun q h' => q = none ∧ FM h h' m ∧ (∀ q, q ≠ m + 1 → mI h' q = mI h q) ∧ (∀ j, 0 ≤ j → j < 4411 → mI h' (m + 1) (4411 * t + j) = mI h (m + 1) (4411 * f + j)) ∧ (∀ j, (j < 4411 * t ∨ 4411 * t + 4411 ≤ j) → mI h' (m + 1) j = mI h (m + 1) j)) xNo := by
  refine xCt_of (ini := false) (by decide +kernel) (Nat.le_of_ble_eq_true rfl) (fun q => absurd q (by decide)) ?_
  generalize hPR : (fun q h' => q = none ∧ FM h h' m ∧ (∀ q, q ≠ m + 1 → mI h' q = mI h q) ∧ (∀ j, 0 ≤ j → j < 4411 → mI h' (m + 1) (4411 * t + j) = mI h (m + 1) (4411 * f + j)) ∧ (∀ j, (j < 4411 * t ∨ 4411 * t + 4411 ≤ j) → mI h' (m + 1) j = mI h (m + 1) j) : Option xV → xM → Prop) = PR
  have K0 : X Ω RX6 cX6_copies 4 none false rm_X6_copies PR xNo 0 0 0 [some (rf m), some (vi f), some (vi t), none] [] h := ?_
  exact K0
  refine X.iconst dX6_copies_0 (pc' := 1) rfl ?_
  refine X.istore_n (i := 3) (ls' := [some (rf m), some (vi f), some (vi t), some (vi 0)]) (hi := rfl) (hd := dX6_copies_1) (by decide) rfl rfl (pc' := 2) rfl ?_
  have L2 : ∀ (n2 : Nat) (g : xM) (k : Int), (4411 - k).toNat < n2 → (0 ≤ k ∧ k ≤ 4411 ∧ FM h g m ∧ (∀ q, q ≠ m + 1 → mI g q = mI h q) ∧ (∀ j, 0 ≤ j → j < k → mI g (m + 1) (4411 * t + j) = mI h (m + 1) (4411 * f + j)) ∧ (∀ j, (j < 4411 * t ∨ 4411 * t + k ≤ j) → mI g (m + 1) j = mI h (m + 1) j)) → X Ω RX6 cX6_copies 4 none false rm_X6_copies PR xNo 0 0 2 [some (rf m), some (vi f), some (vi t), some (vi k)] [] g := by
    intro n2
    induction n2 with
    | zero => intro g k hm _; exfalso; omega
    | succ n2 ih2 =>
      intro g k hm2 hinv
      obtain ⟨hk0, hkn, hF, hq, hc, ho⟩ := hinv
      have hSg : MoS g m := hS.eq hF.2.1 hF.2.2.1
      refine X.iload_n (i := 3) rfl rfl dX6_copies_2 (pc' := 3) rfl ?_
      refine X.sipush (by decide +kernel) dX6_copies_3 (pc' := 6) rfl ?_
      refine X.icmp_ge (tgt := 39) dX6_copies_6 ⟨by omega, by omega⟩ ⟨by omega, by omega⟩ (by decide) (pc' := 9) rfl (fun c6 => ?_) (fun c6 => ?_)
      · refine X.vret dX6_copies_39 rfl (Nat.le_of_ble_eq_true rfl) (Nat.le_of_ble_eq_true rfl) ?_
        subst hPR
        have e : k = 4411 := by omega
        subst e
        exact ⟨rfl, hF, hq, hc, ho⟩
      · refine X.aload_n (i := 0) rfl rfl dX6_copies_9 (pc' := 10) rfl ?_
        refine X.getR fk_X6_8 xcl_6 dX6_copies_10 hSg.1 hSg.2.1 (pc' := 13) rfl ?_
        refine X.sipush (by decide +kernel) dX6_copies_13 (pc' := 16) rfl ?_
        refine X.iload_n (i := 2) rfl rfl dX6_copies_16 (pc' := 17) rfl ?_
        refine X.imul dX6_copies_17 (pc' := 18) rfl ?_
        refine X.iload_n (i := 3) rfl rfl dX6_copies_18 (pc' := 19) rfl ?_
        refine X.iadd dX6_copies_19 (pc' := 20) rfl ?_
        refine X.aload_n (i := 0) rfl rfl dX6_copies_20 (pc' := 21) rfl ?_
        refine X.getR fk_X6_8 xcl_6 dX6_copies_21 hSg.1 hSg.2.1 (pc' := 24) rfl ?_
        refine X.sipush (by decide +kernel) dX6_copies_24 (pc' := 27) rfl ?_
        refine X.iload_n (i := 1) rfl rfl dX6_copies_27 (pc' := 28) rfl ?_
        refine X.imul dX6_copies_28 (pc' := 29) rfl ?_
        refine X.iload_n (i := 3) rfl rfl dX6_copies_29 (pc' := 30) rfl ?_
        refine X.iadd dX6_copies_30 (pc' := 31) rfl ?_
        refine X.iald (x := mI g ((m + 1)) ((4411 * f) + k)) dX6_copies_31 hSg.2.2.1 (by omega) (by omega) ⟨by omega, by omega⟩ rfl (pc' := 32) rfl (fun r1 => ?_)
        obtain ⟨r1a, r1b⟩ := r1
        refine X.iast dX6_copies_32 hSg.2.2.1 (by omega) (by omega) ⟨by omega, by omega⟩ ⟨by omega, by omega⟩ (pc' := 33) rfl ?_
        refine X.genH (fun h2 hh2 => ?_)
        have wh2 : ∀ (w0 : Nat) (w1 : Int), mI h2 w0 w1 = if w0 = (m + 1) ∧ w1 = (4411 * t) + k then mI g ((m + 1)) ((4411 * f) + k) else mI g w0 w1 := fun _ _ => by rw [hh2]; rfl
        have S3 : MoS h2 m := by rw [hh2]; exact hSg
        refine X.iinc (i := 3) (ls' := [some (rf m), some (vi f), some (vi t), some (vi (k + 1))]) dX6_copies_33 rfl (by decide) rfl rfl (pc' := 36) rfl ?_
        refine X.goto (tgt := 2) dX6_copies_36 (by decide) ?_
        refine ih2 h2 (k + 1) (by omega) ?_
        refine ⟨by omega, by omega, by rw [hh2]; exact FM.w hF ⟨by omega, by omega⟩, fun q z => funext fun j => by rw [wh2, if_neg (fun y => z y.1), hq q z], fun j z1 z2 => ?_, fun j z => ?_⟩
        · rw [wh2]
          by_cases e : j = k
          · subst e; rw [if_pos ⟨rfl, rfl⟩]; exact ho _ (by omega)
          · rw [if_neg (by omega)]; exact hc j z1 (by omega)
        · rw [wh2, if_neg (by omega)]; exact ho j (by omega)
  refine L2 _ h 0 (Nat.lt_succ_self _) ?_
  exact ⟨by omega, by omega, FM.rf, fun _ _ => rfl, fun j z1 z2 => by omega, fun j _ => rfl⟩
set_option maxHeartbeats 4000000 in
set_option maxRecDepth 100000 in
theorem k_X6_speaks {Ω : xO} {h : xM} {m : Nat} {A : aS} {s w u : Int} (hS : MoS h m) (hM : RM h (m + 1) 0 A) (hA : aOK A) (hs : 0 ≤ s ∧ s < 6) (hw : 1 ≤ w ∧ w ≤ 99) (hu : -1 ≤ u ∧ u ≤ 9) (hp : aPast A) (hW2 : aW A < 200) (hB2 : aB A < 400) : xCt Ω yX6_speaks cX6_speaks 8 (some .int) rm_X6_speaks [rf m, vi s, vi w, vi u] h (fun q h' => q = some (vi (aW A)) ∧ RM h' (m + 1) 0 (aEnd (aAdd A s w u)) ∧ FS h h' m) xNo := by
  refine xCt_of (ini := false) (by decide +kernel) (Nat.le_of_ble_eq_true rfl) (fun q => absurd q (by decide)) ?_
  generalize hPR : (fun q h' => q = some (vi (aW A)) ∧ RM h' (m + 1) 0 (aEnd (aAdd A s w u)) ∧ FS h h' m : Option xV → xM → Prop) = PR
  have K0 : X Ω RX6 cX6_speaks 8 (some .int) false rm_X6_speaks PR xNo 0 0 0 [some (rf m), some (vi s), some (vi w), some (vi u), none, none, none, none] [] h := ?_
  exact K0
  obtain ⟨mSt, mB, mW, mWl, mWo, mCo, mHe⟩ := id hM
  obtain ⟨okB, okN, okWl, okS, okW, okM, okC, okH⟩ := id hA
  refine X.aload_n (i := 0) rfl rfl dX6_speaks_0 (pc' := 1) rfl ?_
  refine X.getR fk_X6_8 xcl_6 dX6_speaks_1 hS.1 hS.2.1 (pc' := 4) rfl ?_
  refine X.iconst dX6_speaks_4 (pc' := 5) rfl ?_
  refine X.iald (x := aW A) dX6_speaks_5 hS.2.2.1 (by omega) (by omega) ⟨by omega, by omega⟩ (mI_at mW (by omega)) (pc' := 6) rfl (fun r1 => ?_)
  obtain ⟨r1a, r1b⟩ := r1
  refine X.istore (i := 4) (ls' := [some (rf m), some (vi s), some (vi w), some (vi u), some (vi (aW A)), none, none, none]) (hd := dX6_speaks_6) (by decide) rfl rfl (pc' := 8) rfl ?_
  refine X.bipush (by decide +kernel) dX6_speaks_8 (pc' := 10) rfl ?_
  refine X.bipush (by decide +kernel) dX6_speaks_10 (pc' := 12) rfl ?_
  refine X.iload (i := 4) rfl dX6_speaks_12 (pc' := 14) rfl ?_
  refine X.imul dX6_speaks_14 (pc' := 15) rfl ?_
  refine X.iadd dX6_speaks_15 (pc' := 16) rfl ?_
  refine X.gen (fun pq hpq => ?_)
  refine X.istore (i := 5) (ls' := [some (rf m), some (vi s), some (vi w), some (vi u), some (vi (aW A)), some (vi pq), none, none]) (hd := dX6_speaks_16) (by decide) rfl rfl (pc' := 18) rfl ?_
  refine X.aload_n (i := 0) rfl rfl dX6_speaks_18 (pc' := 19) rfl ?_
  refine X.getR fk_X6_8 xcl_6 dX6_speaks_19 hS.1 hS.2.1 (pc' := 22) rfl ?_
  refine X.iload (i := 5) rfl dX6_speaks_22 (pc' := 24) rfl ?_
  refine X.iload_n (i := 1) rfl rfl dX6_speaks_24 (pc' := 25) rfl ?_
  refine X.iast dX6_speaks_25 hS.2.2.1 (by omega) (by omega) ⟨by omega, by omega⟩ ⟨by omega, by omega⟩ (pc' := 26) rfl ?_
  refine X.genH (fun h2 hh2 => ?_)
  have wh2 : ∀ (w0 : Nat) (w1 : Int), mI h2 w0 w1 = if w0 = (m + 1) ∧ w1 = pq then s else mI h w0 w1 := fun _ _ => by rw [hh2]; rfl
  have S3 : MoS h2 m := by rw [hh2]; exact hS
  refine X.aload_n (i := 0) rfl rfl dX6_speaks_26 (pc' := 27) rfl ?_
  refine X.getR fk_X6_8 xcl_6 dX6_speaks_27 S3.1 S3.2.1 (pc' := 30) rfl ?_
  refine X.iload (i := 5) rfl dX6_speaks_30 (pc' := 32) rfl ?_
  refine X.iconst dX6_speaks_32 (pc' := 33) rfl ?_
  refine X.iadd dX6_speaks_33 (pc' := 34) rfl ?_
  refine X.iload_n (i := 2) rfl rfl dX6_speaks_34 (pc' := 35) rfl ?_
  refine X.iast dX6_speaks_35 S3.2.2.1 (by omega) (by omega) ⟨by omega, by omega⟩ ⟨by omega, by omega⟩ (pc' := 36) rfl ?_
  refine X.genH (fun h4 hh4 => ?_)
  have wh4 : ∀ (w0 : Nat) (w1 : Int), mI h4 w0 w1 = if w0 = (m + 1) ∧ w1 = pq + 1 then w else mI h2 w0 w1 := fun _ _ => by rw [hh4]; rfl
  have S5 : MoS h4 m := by rw [hh4]; exact S3
  refine X.aload_n (i := 0) rfl rfl dX6_speaks_36 (pc' := 37) rfl ?_
  refine X.getR fk_X6_8 xcl_6 dX6_speaks_37 S5.1 S5.2.1 (pc' := 40) rfl ?_
  refine X.iload (i := 5) rfl dX6_speaks_40 (pc' := 42) rfl ?_
  refine X.iconst dX6_speaks_42 (pc' := 43) rfl ?_
  refine X.iadd dX6_speaks_43 (pc' := 44) rfl ?_
  refine X.iload_n (i := 3) rfl rfl dX6_speaks_44 (pc' := 45) rfl ?_
  refine X.iast dX6_speaks_45 S5.2.2.1 (by omega) (by omega) ⟨by omega, by omega⟩ ⟨by omega, by omega⟩ (pc' := 46) rfl ?_
  refine X.genH (fun h6 hh6 => ?_)
  have wh6 : ∀ (w0 : Nat) (w1 : Int), mI h6 w0 w1 = if w0 = (m + 1) ∧ w1 = pq + 2 then u else mI h4 w0 w1 := fun _ _ => by rw [hh6]; rfl
  have S7 : MoS h6 m := by rw [hh6]; exact S5
  refine X.aload_n (i := 0) rfl rfl dX6_speaks_46 (pc' := 47) rfl ?_
  refine X.getR fk_X6_8 xcl_6 dX6_speaks_47 S7.1 S7.2.1 (pc' := 50) rfl ?_
  refine X.iload (i := 5) rfl dX6_speaks_50 (pc' := 52) rfl ?_
  refine X.iconst dX6_speaks_52 (pc' := 53) rfl ?_
  refine X.iadd dX6_speaks_53 (pc' := 54) rfl ?_
  refine X.aload_n (i := 0) rfl rfl dX6_speaks_54 (pc' := 55) rfl ?_
  refine X.getR fk_X6_8 xcl_6 dX6_speaks_55 S7.1 S7.2.1 (pc' := 58) rfl ?_
  refine X.iconst dX6_speaks_58 (pc' := 59) rfl ?_
  refine X.iald (x := aB A) dX6_speaks_59 S7.2.2.1 (by omega) (by omega) ⟨by omega, by omega⟩ (by rw [wh6, if_neg (by omega), wh4, if_neg (by omega), wh2, if_neg (by omega)]; exact mI_at mB (by omega)) (pc' := 60) rfl (fun r8 => ?_)
  obtain ⟨r8a, r8b⟩ := r8
  refine X.iast dX6_speaks_60 S7.2.2.1 (by omega) (by omega) ⟨by omega, by omega⟩ ⟨by omega, by omega⟩ (pc' := 61) rfl ?_
  refine X.genH (fun h9 hh9 => ?_)
  have wh9 : ∀ (w0 : Nat) (w1 : Int), mI h9 w0 w1 = if w0 = (m + 1) ∧ w1 = pq + 3 then aB A else mI h6 w0 w1 := fun _ _ => by rw [hh9]; rfl
  have S10 : MoS h9 m := by rw [hh9]; exact S7
  refine X.iconst dX6_speaks_61 (pc' := 62) rfl ?_
  refine X.istore (i := 6) (ls' := [some (rf m), some (vi s), some (vi w), some (vi u), some (vi (aW A)), some (vi pq), some (vi 0), none]) (hd := dX6_speaks_62) (by decide) rfl rfl (pc' := 64) rfl ?_
  have L64 : ∀ (n64 : Nat) (g : xM) (t : Int), (6 - t).toNat < n64 → (0 ≤ t ∧ t ≤ 6 ∧ FS h g m ∧ (∀ j, 0 ≤ j → j < 4411 → (j < 11 + 10 * aW A ∨ 21 + 10 * aW A ≤ j) → mI g (m + 1) j = mI h (m + 1) j) ∧ (mI g (m + 1) (11 + 10 * aW A) = s ∧ mI g (m + 1) (12 + 10 * aW A) = w ∧ mI g (m + 1) (13 + 10 * aW A) = u ∧ mI g (m + 1) (14 + 10 * aW A) = aB A) ∧ (∀ q, 0 ≤ q → q < t → mI g (m + 1) (15 + 10 * aW A + q) = if dly A s q = -1 then -1 else aB A + dly A s q)) → X Ω RX6 cX6_speaks 8 (some .int) false rm_X6_speaks PR xNo 0 0 64 [some (rf m), some (vi s), some (vi w), some (vi u), some (vi (aW A)), some (vi pq), some (vi t), none] [] g := by
    intro n64
    induction n64 with
    | zero => intro g t hm _; exfalso; omega
    | succ n64 ih64 =>
      intro g t hm64 hinv
      obtain ⟨ht0, ht6, hF, ho, hv, hc⟩ := hinv
      have hSg : MoS g m := hS.eq hF.1.2.1 hF.1.2.2.1
      have hMg : RM g (m + 1) 0 A := RM_pre2 hM hA ho hW2
      have mBg := hMg.2.1
      have mWg := hMg.2.2.1
      refine X.iload (i := 6) rfl dX6_speaks_64 (pc' := 66) rfl ?_
      refine X.bipush (by decide +kernel) dX6_speaks_66 (pc' := 68) rfl ?_
      refine X.icmp_ge (tgt := 116) dX6_speaks_68 ⟨by omega, by omega⟩ ⟨by omega, by omega⟩ (by decide) (pc' := 71) rfl (fun c68 => ?_) (fun c68 => ?_)
      · refine X.aload_n (i := 0) rfl rfl dX6_speaks_116 (pc' := 117) rfl ?_
        refine X.getR fk_X6_8 xcl_6 dX6_speaks_117 hSg.1 hSg.2.1 (pc' := 120) rfl ?_
        refine X.iconst dX6_speaks_120 (pc' := 121) rfl ?_
        refine X.dup2 rfl rfl dX6_speaks_121 (pc' := 122) rfl ?_
        refine X.iald (x := aW A) dX6_speaks_122 hSg.2.2.1 (by omega) (by omega) ⟨by omega, by omega⟩ (mI_at mWg (by omega)) (pc' := 123) rfl (fun r11 => ?_)
        obtain ⟨r11a, r11b⟩ := r11
        refine X.iconst dX6_speaks_123 (pc' := 124) rfl ?_
        refine X.iadd dX6_speaks_124 (pc' := 125) rfl ?_
        refine X.iast dX6_speaks_125 hSg.2.2.1 (by omega) (by omega) ⟨by omega, by omega⟩ ⟨by omega, by omega⟩ (pc' := 126) rfl ?_
        refine X.genH (fun h12 hh12 => ?_)
        have wh12 : ∀ (w0 : Nat) (w1 : Int), mI h12 w0 w1 = if w0 = (m + 1) ∧ w1 = 4 then (aW A) + 1 else mI g w0 w1 := fun _ _ => by rw [hh12]; rfl
        have S13 : MoS h12 m := by rw [hh12]; exact hSg
        refine X.aload_n (i := 0) rfl rfl dX6_speaks_126 (pc' := 127) rfl ?_
        have e : t = 6 := by omega
        subst e
        have hFa : FS h h12 m := by rw [hh12]; exact FS.w hF (by omega)
        have hSa : MoS h12 m := hS.eq hFa.1.2.1 hFa.1.2.2.1
        have hMa : RM h12 (m + 1) 0 (aAdd A s w u) := by
          refine RM_add hM hA hW2 ?_ ?_ ?_ ?_ (fun q z1 z2 => ?_) ?_ (fun j z1 z2 z3 z4 => ?_)
          · rw [wh12, if_neg (by omega)]; exact hv.1
          · rw [wh12, if_neg (by omega)]; exact hv.2.1
          · rw [wh12, if_neg (by omega)]; exact hv.2.2.1
          · rw [wh12, if_neg (by omega)]; exact hv.2.2.2
          · rw [wh12, if_neg (by omega)]; exact hc q z1 z2
          · rw [wh12, if_pos ⟨rfl, rfl⟩]
          · rw [wh12, if_neg (by omega)]; exact ho j z1 z2 z4
        refine X.callV (ci := 6) (a := m) (rm := rm_X6_ends) (As := []) (st := []) dX6_speaks_127 ck_X6_49 rfl (by decide) S13.1 rfl rfl ⟨Nat.le_of_ble_eq_true rfl, Nat.le_of_ble_eq_true rfl⟩ (Nat.le_of_ble_eq_true rfl) (Nat.le_of_ble_eq_true rfl) (Nat.le_of_ble_eq_true rfl) (pc' := 130) rfl (k_X6_ends hSa hMa (aAdd_ok hA hp hW2 hs hw hu) (show aB A < 400 by omega)) (fun q14 hq14 eq14 => ?_) (fun _ _ x1 => x1.elim)
        obtain ⟨rfl, hME, hFE⟩ := eq14
        refine X.iload (i := 4) rfl dX6_speaks_130 (pc' := 132) rfl ?_
        refine X.iret dX6_speaks_132 (Or.inl rfl) (Nat.le_of_ble_eq_true rfl) (Nat.le_of_ble_eq_true rfl) ?_
        subst hPR
        exact ⟨rfl, hME, hFa.tr hFE⟩
      · refine X.aload_n (i := 0) rfl rfl dX6_speaks_71 (pc' := 72) rfl ?_
        refine X.iload_n (i := 1) rfl rfl dX6_speaks_72 (pc' := 73) rfl ?_
        refine X.iload (i := 6) rfl dX6_speaks_73 (pc' := 75) rfl ?_
        refine X.callV (ci := 6) (a := m) (rm := rm_X6_delay) (As := [vi s, vi t]) (st := []) dX6_speaks_75 ck_X6_46 rfl (by decide) hSg.1 rfl rfl ⟨Nat.le_of_ble_eq_true rfl, Nat.le_of_ble_eq_true rfl⟩ (Nat.le_of_ble_eq_true rfl) (Nat.le_of_ble_eq_true rfl) (Nat.le_of_ble_eq_true rfl) (pc' := 78) rfl (k_X6_delay hSg hMg hA hs ⟨by omega, by omega⟩) (fun q15 hq15 eq15 => ?_) (fun _ _ x1 => x1.elim)
        obtain ⟨rfl, dd, rfl, hdd⟩ := eq15
        have hdr := dly_rng hA hs ⟨ht0, (by omega : t < 6)⟩
        refine X.istore (i := 7) (ls' := [some (rf m), some (vi s), some (vi w), some (vi u), some (vi (aW A)), some (vi pq), some (vi t), some (vi dd)]) (hd := dX6_speaks_78) (by decide) rfl rfl (pc' := 80) rfl ?_
        refine X.aload_n (i := 0) rfl rfl dX6_speaks_80 (pc' := 81) rfl ?_
        refine X.getR fk_X6_8 xcl_6 dX6_speaks_81 hSg.1 hSg.2.1 (pc' := 84) rfl ?_
        refine X.iload (i := 5) rfl dX6_speaks_84 (pc' := 86) rfl ?_
        refine X.iconst dX6_speaks_86 (pc' := 87) rfl ?_
        refine X.iadd dX6_speaks_87 (pc' := 88) rfl ?_
        refine X.iload (i := 6) rfl dX6_speaks_88 (pc' := 90) rfl ?_
        refine X.iadd dX6_speaks_90 (pc' := 91) rfl ?_
        refine X.iload (i := 7) rfl dX6_speaks_91 (pc' := 93) rfl ?_
        refine X.if_ge (tgt := 100) dX6_speaks_93 ⟨by omega, by omega⟩ (by decide) (pc' := 96) rfl (fun c93 => ?_) (fun c93 => ?_)
        · refine X.aload_n (i := 0) rfl rfl dX6_speaks_100 (pc' := 101) rfl ?_
          refine X.getR fk_X6_8 xcl_6 dX6_speaks_101 hSg.1 hSg.2.1 (pc' := 104) rfl ?_
          refine X.iconst dX6_speaks_104 (pc' := 105) rfl ?_
          refine X.iald (x := aB A) dX6_speaks_105 hSg.2.2.1 (by omega) (by omega) ⟨by omega, by omega⟩ (mI_at mBg (by omega)) (pc' := 106) rfl (fun r16 => ?_)
          obtain ⟨r16a, r16b⟩ := r16
          refine X.iload (i := 7) rfl dX6_speaks_106 (pc' := 108) rfl ?_
          refine X.iadd dX6_speaks_108 (pc' := 109) rfl ?_
          refine X.iast dX6_speaks_109 hSg.2.2.1 (by omega) (by omega) ⟨by omega, by omega⟩ ⟨by omega, by omega⟩ (pc' := 110) rfl ?_
          refine X.genH (fun h17 hh17 => ?_)
          have wh17 : ∀ (w0 : Nat) (w1 : Int), mI h17 w0 w1 = if w0 = (m + 1) ∧ w1 = (pq + 4) + t then (aB A) + dd else mI g w0 w1 := fun _ _ => by rw [hh17]; rfl
          have S18 : MoS h17 m := by rw [hh17]; exact hSg
          refine X.iinc (i := 6) (ls' := [some (rf m), some (vi s), some (vi w), some (vi u), some (vi (aW A)), some (vi pq), some (vi (t + 1)), some (vi dd)]) dX6_speaks_110 rfl (by decide) rfl rfl (pc' := 113) rfl ?_
          refine X.goto (tgt := 64) dX6_speaks_113 (by decide) ?_
          refine X.mask (bs := [true, true, true, true, true, true, true, false]) (ls' := [some (rf m), some (vi s), some (vi w), some (vi u), some (vi (aW A)), some (vi pq), some (vi (t + 1)), none]) rfl ?_
          refine ih64 h17 (t + 1) (by omega) ?_
          refine ⟨by omega, by omega, by rw [hh17]; exact FS.w hF (by omega), fun j z1 z2 z3 => ?_, ⟨?_, ?_, ?_, ?_⟩, fun q z1 z2 => ?_⟩
          · rw [wh17, if_neg (by omega)]; exact ho j z1 z2 z3
          · rw [wh17, if_neg (by omega)]; exact hv.1
          · rw [wh17, if_neg (by omega)]; exact hv.2.1
          · rw [wh17, if_neg (by omega)]; exact hv.2.2.1
          · rw [wh17, if_neg (by omega)]; exact hv.2.2.2
          · rw [wh17]
            by_cases e : q = t
            · subst e; rw [if_pos ⟨rfl, by omega⟩, ← hdd, if_neg (by omega)]
            · rw [if_neg (by omega)]; exact hc q z1 (by omega)
        · refine X.iconst dX6_speaks_96 (pc' := 97) rfl ?_
          refine X.goto (tgt := 109) dX6_speaks_97 (by decide) ?_
          refine X.iast dX6_speaks_109 hSg.2.2.1 (by omega) (by omega) ⟨by omega, by omega⟩ ⟨by omega, by omega⟩ (pc' := 110) rfl ?_
          refine X.genH (fun h19 hh19 => ?_)
          have wh19 : ∀ (w0 : Nat) (w1 : Int), mI h19 w0 w1 = if w0 = (m + 1) ∧ w1 = (pq + 4) + t then (-1) else mI g w0 w1 := fun _ _ => by rw [hh19]; rfl
          have S20 : MoS h19 m := by rw [hh19]; exact hSg
          refine X.iinc (i := 6) (ls' := [some (rf m), some (vi s), some (vi w), some (vi u), some (vi (aW A)), some (vi pq), some (vi (t + 1)), some (vi dd)]) dX6_speaks_110 rfl (by decide) rfl rfl (pc' := 113) rfl ?_
          refine X.goto (tgt := 64) dX6_speaks_113 (by decide) ?_
          refine X.mask (bs := [true, true, true, true, true, true, true, false]) (ls' := [some (rf m), some (vi s), some (vi w), some (vi u), some (vi (aW A)), some (vi pq), some (vi (t + 1)), none]) rfl ?_
          refine ih64 h19 (t + 1) (by omega) ?_
          refine ⟨by omega, by omega, by rw [hh19]; exact FS.w hF (by omega), fun j z1 z2 z3 => ?_, ⟨?_, ?_, ?_, ?_⟩, fun q z1 z2 => ?_⟩
          · rw [wh19, if_neg (by omega)]; exact ho j z1 z2 z3
          · rw [wh19, if_neg (by omega)]; exact hv.1
          · rw [wh19, if_neg (by omega)]; exact hv.2.1
          · rw [wh19, if_neg (by omega)]; exact hv.2.2.1
          · rw [wh19, if_neg (by omega)]; exact hv.2.2.2
          · rw [wh19]
            by_cases e : q = t
            · subst e; rw [if_pos ⟨rfl, by omega⟩, ← hdd, if_pos (by omega)]
            · rw [if_neg (by omega)]; exact hc q z1 (by omega)
  refine L64 _ h9 0 (Nat.lt_succ_self _) ?_
  exact ⟨by omega, by omega, by rw [hh9, hh6, hh4, hh2]; exact FS.w (FS.w (FS.w (FS.w (FS.rf) (by omega)) (by omega)) (by omega)) (by omega), fun j z1 z2 z3 => by rw [wh9, if_neg (by omega), wh6, if_neg (by omega), wh4, if_neg (by omega), wh2, if_neg (by omega)], ⟨by rw [wh9, if_neg (by omega), wh6, if_neg (by omega), wh4, if_neg (by omega), wh2, if_pos ⟨rfl, by omega⟩], by rw [wh9, if_neg (by omega), wh6, if_neg (by omega), wh4, if_pos ⟨rfl, by omega⟩], by rw [wh9, if_neg (by omega), wh6, if_pos ⟨rfl, by omega⟩], by rw [wh9, if_pos ⟨rfl, by omega⟩]⟩, fun q z1 z2 => by omega⟩
