set_option maxHeartbeats 4000000 in
set_option maxRecDepth 100000 in
theorem k_X2_dropOldest {Ω : xO} {h : xM} {a : Nat} (hH : HiS h a) (hB : ∀ i, 0 ≤ i → i < 6 → ∃ b, mR h (a + 1) i = some b ∧ mT h b = some (0, 12)) : xCt Ω yX2_dropOldest cX2_dropOldest 3 none rm_X2_dropOldest [rf a] h (fun q h' => q = none ∧ hDr h h' a) xNo := by
  refine xCt_of (ini := false) (by decide +kernel) (Nat.le_of_ble_eq_true rfl) (fun q => absurd q (by decide)) ?_
  generalize hPR : (fun q h' => q = none ∧ hDr h h' a : Option xV → xM → Prop) = PR
  have K0 : X Ω RX2 cX2_dropOldest 3 none false rm_X2_dropOldest PR xNo 0 0 0 [some (rf a), none, none] [] h := ?_
  exact K0
  obtain ⟨B, hb⟩ : ∃ B : Int → Nat, ∀ i, 0 ≤ i → i < 6 → mR h (a + 1) i = some (B i) ∧ mT h (B i) = some (0, 12) := ⟨fun i => (mR h (a + 1) i).getD 0, fun i h1 h2 => by
    obtain ⟨b, e1, e2⟩ := hB i h1 h2
    show mR h (a + 1) i = some ((mR h (a + 1) i).getD 0) ∧ mT h ((mR h (a + 1) i).getD 0) = some (0, 12)
    rw [e1]
    exact ⟨rfl, e2⟩⟩
  refine X.aload_n (i := 0) rfl rfl dX2_dropOldest_0 (pc' := 1) rfl ?_
  refine X.getR fk_X2_11 xcl_2 dX2_dropOldest_1 hH.1 hH.2.1 (pc' := 4) rfl ?_
  refine X.iconst dX2_dropOldest_4 (pc' := 5) rfl ?_
  refine X.aald14 (x := some ((B 0))) dX2_dropOldest_5 hH.2.2 (by omega) (by omega) ⟨by omega, by omega⟩ (hb 0 (by omega) (by omega)).1 (pc' := 6) rfl ?_
  refine X.astore_n (i := 1) (ls' := [some (rf a), some (rf ((B 0))), none]) (hi := rfl) (hd := dX2_dropOldest_6) (by decide) rfl rfl (pc' := 7) rfl ?_
  refine X.iconst dX2_dropOldest_7 (pc' := 8) rfl ?_
  refine X.istore_n (i := 2) (ls' := [some (rf a), some (rf ((B 0))), some (vi 1)]) (hi := rfl) (hd := dX2_dropOldest_8) (by decide) rfl rfl (pc' := 9) rfl ?_
  have L9 : ∀ (n9 : Nat) (g : xM) (k : Int), (6 - k).toNat < n9 → (1 ≤ k ∧ k ≤ 6 ∧ mN g = mN h ∧ mT g = mT h ∧ mI g = mI h ∧ mL g = mL h ∧ (∀ c j, mR g c j = if c = a + 1 ∧ 0 ≤ j ∧ j < k - 1 then some (B (j + 1)) else mR h c j)) → X Ω RX2 cX2_dropOldest 3 none false rm_X2_dropOldest PR xNo 0 0 9 [some (rf a), some (rf ((B 0))), some (vi k)] [] g := by
    intro n9
    induction n9 with
    | zero => intro g k hm _; exfalso; omega
    | succ n9 ih9 =>
      intro g k hm9 hinv
      obtain ⟨hk1, hk6, hNg, hTg, hIg, hLg, hRg⟩ := hinv
      have hHg : HiS g a := ⟨by rw [hTg]; exact hH.1, by rw [hRg, if_neg (by omega)]; exact hH.2.1, by rw [hTg]; exact hH.2.2⟩
      refine X.iload_n (i := 2) rfl rfl dX2_dropOldest_9 (pc' := 10) rfl ?_
      refine X.bipush (by decide +kernel) dX2_dropOldest_10 (pc' := 12) rfl ?_
      refine X.icmp_ge (tgt := 35) dX2_dropOldest_12 ⟨by omega, by omega⟩ ⟨by omega, by omega⟩ (by decide) (pc' := 15) rfl (fun c12 => ?_) (fun c12 => ?_)
      · refine X.aload_n (i := 0) rfl rfl dX2_dropOldest_35 (pc' := 36) rfl ?_
        refine X.getR fk_X2_11 xcl_2 dX2_dropOldest_36 hHg.1 hHg.2.1 (pc' := 39) rfl ?_
        refine X.iconst dX2_dropOldest_39 (pc' := 40) rfl ?_
        refine X.aload_n (i := 1) rfl rfl dX2_dropOldest_40 (pc' := 41) rfl ?_
        refine X.aast14 dX2_dropOldest_41 hHg.2.2 (by omega) (by omega) ⟨by omega, by omega⟩ (by rw [hTg]; exact (hb 0 (by omega) (by omega)).2) (pc' := 42) rfl ?_
        refine X.genH (fun h1 hh1 => ?_)
        have wh1 : ∀ (w0 : Nat) (w1 : Int), mR h1 w0 w1 = if w0 = (a + 1) ∧ w1 = 5 then some ((B 0)) else mR g w0 w1 := fun _ _ => by rw [hh1]; rfl
        have S2 : HiS h1 a := ⟨by rw [hh1]; exact hHg.1, by rw [wh1, if_neg (by omega)]; exact hHg.2.1, by rw [hh1]; exact hHg.2.2⟩
        refine X.aload_n (i := 0) rfl rfl dX2_dropOldest_42 (pc' := 43) rfl ?_
        refine X.iconst dX2_dropOldest_43 (pc' := 44) rfl ?_
        refine X.putI fk_X2_17 xcl_2 ⟨_, rfl, Or.inl rfl⟩ dX2_dropOldest_44 (Or.inl rfl) ⟨by omega, by omega⟩ S2.1 (pc' := 47) rfl ?_
        refine X.genH (fun h3 hh3 => ?_)
        have wh3 : ∀ (w0 : Nat) (w1 : Int), mI h3 w0 w1 = if w0 = a ∧ w1 = 0 then 5 else mI h1 w0 w1 := fun _ _ => by rw [hh3]; rfl
        have S4 : HiS h3 a := by rw [hh3]; exact S2
        refine X.vret dX2_dropOldest_47 rfl (Nat.le_of_ble_eq_true rfl) (Nat.le_of_ble_eq_true rfl) ?_
        subst hPR
        have e : k = 6 := by omega
        subst e
        refine ⟨rfl, by rw [hh3, hh1]; exact hNg, by rw [hh3, hh1]; exact hTg, by rw [hh3, hh1]; exact hLg, fun c j => ?_, fun c j => ?_⟩
        · rw [wh3, hh1]
          show (if c = a ∧ j = 0 then 5 else mI g c j) = _
          rw [hIg]
        · rw [show mR h3 c j = mR h1 c j by rw [hh3]; rfl, wh1, hRg]
          by_cases e1 : c = a + 1 ∧ j = 5
          · rw [if_pos e1, if_pos (by omega), if_neg (by omega)]
            exact (hb 0 (by omega) (by omega)).1.symm
          · rw [if_neg e1]
            by_cases e2 : c = a + 1 ∧ 0 ≤ j ∧ j < 5
            · rw [if_pos (by omega), if_pos (by omega), if_pos (by omega)]
              exact (hb (j + 1) (by omega) (by omega)).1.symm
            · rw [if_neg (by omega), if_neg (by omega)]
      · refine X.aload_n (i := 0) rfl rfl dX2_dropOldest_15 (pc' := 16) rfl ?_
        refine X.getR fk_X2_11 xcl_2 dX2_dropOldest_16 hHg.1 hHg.2.1 (pc' := 19) rfl ?_
        refine X.iload_n (i := 2) rfl rfl dX2_dropOldest_19 (pc' := 20) rfl ?_
        refine X.iconst dX2_dropOldest_20 (pc' := 21) rfl ?_
        refine X.isub dX2_dropOldest_21 (pc' := 22) rfl ?_
        refine X.aload_n (i := 0) rfl rfl dX2_dropOldest_22 (pc' := 23) rfl ?_
        refine X.getR fk_X2_11 xcl_2 dX2_dropOldest_23 hHg.1 hHg.2.1 (pc' := 26) rfl ?_
        refine X.iload_n (i := 2) rfl rfl dX2_dropOldest_26 (pc' := 27) rfl ?_
        refine X.aald14 (x := some ((B k))) dX2_dropOldest_27 hHg.2.2 (by omega) (by omega) ⟨by omega, by omega⟩ (by rw [hRg, if_neg (by omega)]; exact (hb k (by omega) (by omega)).1) (pc' := 28) rfl ?_
        refine X.aast14 dX2_dropOldest_28 hHg.2.2 (by omega) (by omega) ⟨by omega, by omega⟩ (by rw [hTg]; exact (hb k (by omega) (by omega)).2) (pc' := 29) rfl ?_
        refine X.genH (fun h5 hh5 => ?_)
        have wh5 : ∀ (w0 : Nat) (w1 : Int), mR h5 w0 w1 = if w0 = (a + 1) ∧ w1 = k - 1 then some ((B k)) else mR g w0 w1 := fun _ _ => by rw [hh5]; rfl
        have S6 : HiS h5 a := ⟨by rw [hh5]; exact hHg.1, by rw [wh5, if_neg (by omega)]; exact hHg.2.1, by rw [hh5]; exact hHg.2.2⟩
        refine X.iinc (i := 2) (ls' := [some (rf a), some (rf ((B 0))), some (vi (k + 1))]) dX2_dropOldest_29 rfl (by decide) rfl rfl (pc' := 32) rfl ?_
        refine X.goto (tgt := 9) dX2_dropOldest_32 (by decide) ?_
        refine ih9 h5 (k + 1) (by omega) ?_
        refine ⟨by omega, by omega, by rw [hh5]; exact hNg, by rw [hh5]; exact hTg, by rw [hh5]; exact hIg, by rw [hh5]; exact hLg, fun c j => ?_⟩
        rw [wh5, hRg]
        by_cases e1 : c = a + 1 ∧ j = k - 1
        · rw [if_pos e1, if_pos (by omega), show j + 1 = k by omega]
        · rw [if_neg e1]
          by_cases e2 : c = a + 1 ∧ 0 ≤ j ∧ j < k - 1
          · rw [if_pos e2, if_pos (by omega)]
          · rw [if_neg e2, if_neg (by omega)]
  refine L9 _ h 1 (Nat.lt_succ_self _) ?_
  exact ⟨by omega, by omega, rfl, rfl, rfl, rfl, fun c j => by rw [if_neg (by omega)]⟩
set_option maxHeartbeats 4000000 in
set_option maxRecDepth 100000 in
theorem k_X2_latest {Ω : xO} {h : xM} {a : Nat} {z : Int} (hH : HiS h a) (hz : mI h a 0 = z) (hz6 : 0 ≤ z ∧ z ≤ 6) : xCt Ω yX2_latest cX2_latest 1 (some (.object "EchoLine$Chamber")) rm_X2_latest [rf a] h (fun q h' => h = h' ∧ q = some (vr (if 0 < z then mR h (a + 1) (z - 1) else none))) xNo := by
  refine xCt_of (ini := false) (by decide +kernel) (Nat.le_of_ble_eq_true rfl) (fun q => absurd q (by decide)) ?_
  generalize hPR : (fun q h' => h = h' ∧ q = some (vr (if 0 < z then mR h (a + 1) (z - 1) else none)) : Option xV → xM → Prop) = PR
  have K0 : X Ω RX2 cX2_latest 1 (some (.object "EchoLine$Chamber")) false rm_X2_latest PR xNo 0 0 0 [some (rf a)] [] h := ?_
  exact K0
  refine X.aload_n (i := 0) rfl rfl dX2_latest_0 (pc' := 1) rfl ?_
  refine X.getI (x := mI h a 0) fk_X2_17 xcl_2 dX2_latest_1 (by decide) hH.1 rfl (pc' := 4) rfl (fun r1 => ?_)
  obtain ⟨r1a, r1b⟩ := r1
  refine X.if_le (tgt := 21) dX2_latest_4 ⟨by omega, by omega⟩ (by decide) (pc' := 7) rfl (fun c4 => ?_) (fun c4 => ?_)
  · refine X.anull dX2_latest_21 (pc' := 22) rfl ?_
    refine X.aret dX2_latest_22 rfl (Nat.le_of_ble_eq_true rfl) (Nat.le_of_ble_eq_true rfl) ?_
    subst hPR
    subst hz
    exact ⟨rfl, by rw [if_neg (by omega)]⟩
  · refine X.aload_n (i := 0) rfl rfl dX2_latest_7 (pc' := 8) rfl ?_
    refine X.getR fk_X2_11 xcl_2 dX2_latest_8 hH.1 hH.2.1 (pc' := 11) rfl ?_
    refine X.aload_n (i := 0) rfl rfl dX2_latest_11 (pc' := 12) rfl ?_
    refine X.getI (x := mI h a 0) fk_X2_17 xcl_2 dX2_latest_12 (by decide) hH.1 rfl (pc' := 15) rfl (fun r2 => ?_)
    obtain ⟨r2a, r2b⟩ := r2
    refine X.iconst dX2_latest_15 (pc' := 16) rfl ?_
    refine X.isub dX2_latest_16 (pc' := 17) rfl ?_
    refine X.aald14 dX2_latest_17 hH.2.2 (by omega) (by omega) ⟨by omega, by omega⟩ rfl (pc' := 18) rfl ?_
    refine X.goto (tgt := 22) dX2_latest_18 (by decide) ?_
    refine X.aret dX2_latest_22 rfl (Nat.le_of_ble_eq_true rfl) (Nat.le_of_ble_eq_true rfl) ?_
    subst hPR
    subst hz
    exact ⟨rfl, by rw [if_pos (by omega)]⟩
set_option maxHeartbeats 4000000 in
set_option maxRecDepth 100000 in
theorem k_X2_dropLatest {Ω : xO} {h : xM} {a : Nat} {z : Int} (hH : HiS h a) (hz : mI h a 0 = z) (hz6 : 0 ≤ z ∧ z ≤ 6) : xCt Ω yX2_dropLatest cX2_dropLatest 1 none rm_X2_dropLatest [rf a] h (fun q h' => q = none ∧ mN h' = mN h ∧ mT h' = mT h ∧ mR h' = mR h ∧ mL h' = mL h ∧ ∀ c j, mI h' c j = if c = a ∧ j = 0 ∧ 0 < z then z - 1 else mI h c j) xNo := by
  refine xCt_of (ini := false) (by decide +kernel) (Nat.le_of_ble_eq_true rfl) (fun q => absurd q (by decide)) ?_
  generalize hPR : (fun q h' => q = none ∧ mN h' = mN h ∧ mT h' = mT h ∧ mR h' = mR h ∧ mL h' = mL h ∧ ∀ c j, mI h' c j = if c = a ∧ j = 0 ∧ 0 < z then z - 1 else mI h c j : Option xV → xM → Prop) = PR
  have K0 : X Ω RX2 cX2_dropLatest 1 none false rm_X2_dropLatest PR xNo 0 0 0 [some (rf a)] [] h := ?_
  exact K0
  refine X.aload_n (i := 0) rfl rfl dX2_dropLatest_0 (pc' := 1) rfl ?_
  refine X.getI (x := mI h a 0) fk_X2_17 xcl_2 dX2_dropLatest_1 (by decide) hH.1 rfl (pc' := 4) rfl (fun r1 => ?_)
  obtain ⟨r1a, r1b⟩ := r1
  refine X.if_le (tgt := 17) dX2_dropLatest_4 ⟨by omega, by omega⟩ (by decide) (pc' := 7) rfl (fun c4 => ?_) (fun c4 => ?_)
  · refine X.vret dX2_dropLatest_17 rfl (Nat.le_of_ble_eq_true rfl) (Nat.le_of_ble_eq_true rfl) ?_
    subst hPR
    exact ⟨rfl, rfl, rfl, rfl, rfl, fun c j => by rw [if_neg (by omega)]⟩
  · refine X.aload_n (i := 0) rfl rfl dX2_dropLatest_7 (pc' := 8) rfl ?_
    refine X.dup rfl dX2_dropLatest_8 (pc' := 9) rfl ?_
    refine X.getI (x := mI h a 0) fk_X2_17 xcl_2 dX2_dropLatest_9 (by decide) hH.1 rfl (pc' := 12) rfl (fun r2 => ?_)
    obtain ⟨r2a, r2b⟩ := r2
    refine X.iconst dX2_dropLatest_12 (pc' := 13) rfl ?_
    refine X.isub dX2_dropLatest_13 (pc' := 14) rfl ?_
    refine X.putI fk_X2_17 xcl_2 ⟨_, rfl, Or.inl rfl⟩ dX2_dropLatest_14 (Or.inl rfl) ⟨by omega, by omega⟩ hH.1 (pc' := 17) rfl ?_
    refine X.genH (fun h3 hh3 => ?_)
    have wh3 : ∀ (w0 : Nat) (w1 : Int), mI h3 w0 w1 = if w0 = a ∧ w1 = 0 then (mI h a 0) - 1 else mI h w0 w1 := fun _ _ => by rw [hh3]; rfl
    have S4 : HiS h3 a := by rw [hh3]; exact hH
    refine X.vret dX2_dropLatest_17 rfl (Nat.le_of_ble_eq_true rfl) (Nat.le_of_ble_eq_true rfl) ?_
    subst hPR
    exact ⟨rfl, by rw [hh3]; rfl, by rw [hh3]; rfl, by rw [hh3]; rfl, by rw [hh3]; rfl, fun c j => by
      rw [wh3]
      by_cases e : c = a ∧ j = 0
      · rw [if_pos e, if_pos (by omega), hz]
      · rw [if_neg e, if_neg (by omega)]⟩
set_option maxHeartbeats 4000000 in
set_option maxRecDepth 100000 in
theorem k_X2_save {Ω : xO} {h : xM} {a c lo : Nat} {z : Int} {Sv : Int → aS} {A : aS} (hH : HR h a lo z Sv) (hR : RC h c A) (hc : c + 29 ≤ a) (ha : a + 2 ≤ lo) (hlo : lo ≤ mN h) : xCt Ω yX2_save cX2_save 3 none rm_X2_save [rf a, rf c] h (fun q h' => q = none ∧ HR h' a lo (psz z) (psh z Sv A) ∧ HF h h' a) xNo := by
  refine xCt_of (ini := false) (by decide +kernel) (Nat.le_of_ble_eq_true rfl) (fun q => absurd q (by decide)) ?_
  generalize hPR : (fun q h' => q = none ∧ HR h' a lo (psz z) (psh z Sv A) ∧ HF h h' a : Option xV → xM → Prop) = PR
  have K0 : X Ω RX2 cX2_save 3 none false rm_X2_save PR xNo 0 0 0 [some (rf a), some (rf c), none] [] h := ?_
  exact K0
  have hz := hH.2.1
  have hz6 := hH.2.2.1
  refine X.aload_n (i := 0) rfl rfl dX2_save_0 (pc' := 1) rfl ?_
  refine X.getI (x := mI h a 0) fk_X2_17 xcl_2 dX2_save_1 (by decide) hH.1.1 rfl (pc' := 4) rfl (fun r1 => ?_)
  obtain ⟨r1a, r1b⟩ := r1
  refine X.bipush (by decide +kernel) dX2_save_4 (pc' := 6) rfl ?_
  refine X.icmp_lt (tgt := 13) dX2_save_6 ⟨by omega, by omega⟩ ⟨by omega, by omega⟩ (by decide) (pc' := 9) rfl (fun c6 => ?_) (fun c6 => ?_)
  · have J13 : ∀ (g : xM) (y : Int) (Sy : Int → aS), (y < 6 ∧ HR g a lo y Sy ∧ HF h g a ∧ RC g c A ∧ y + 1 = psz z ∧ (∀ i, 0 ≤ i → i < y → psh z Sv A i = Sy i)) → X Ω RX2 cX2_save 3 none false rm_X2_save PR xNo 0 0 13 [some (rf a), some (rf c), none] [] g := by
      intro g y Sy hinv
      obtain ⟨hy6, hHg, hFg, hRg, hyz, hSy⟩ := hinv
      have hy := hHg.2.1
      have hy0 := hHg.2.2.1
      have hNg := hFg.1
      refine X.aload_n (i := 0) rfl rfl dX2_save_13 (pc' := 14) rfl ?_
      refine X.getR fk_X2_11 xcl_2 dX2_save_14 hHg.1.1 hHg.1.2.1 (pc' := 17) rfl ?_
      refine X.aload_n (i := 0) rfl rfl dX2_save_17 (pc' := 18) rfl ?_
      refine X.getI (x := mI g a 0) fk_X2_17 xcl_2 dX2_save_18 (by decide) hHg.1.1 rfl (pc' := 21) rfl (fun r2 => ?_)
      obtain ⟨r2a, r2b⟩ := r2
      refine X.aald14 dX2_save_21 hHg.1.2.2 (by omega) (by omega) ⟨by omega, by omega⟩ rfl (pc' := 22) rfl ?_
      refine X.astore_n (i := 2) (ls' := [some (rf a), some (rf c), some (vr (mR g ((a + 1)) (mI g a 0)))]) (hi := rfl) (hd := dX2_save_22) (by decide) rfl rfl (pc' := 23) rfl ?_
      refine X.aload_n (i := 2) rfl rfl dX2_save_23 (pc' := 24) rfl ?_
      refine X.ifnonnull (tgt := 45) dX2_save_24 (by decide) (pc' := 27) rfl (fun b hb => ?_) (fun hb => ?_)
      · rw [hb]
        have J45 : ∀ (k : xM) (b : Nat), (HR k a lo y Sy ∧ HF g k a ∧ RC k c A ∧ mR k (a + 1) y = some b) → X Ω RX2 cX2_save 3 none false rm_X2_save PR xNo 0 0 45 [some (rf a), some (rf c), some (rf b)] [] k := by
          intro k b hinv
          obtain ⟨hHk, hFk, hRk, hbk⟩ := hinv
          have hNk := hFk.1
          have hyk := hHk.2.1
          have hBC : ChS k b ∧ lo ≤ b := by
            rcases hHk.2.2.2.1 y hy0.1 hy6 with e1 | ⟨b2, e1, e2, e3, e4, e5⟩
            · rw [e1.1] at hbk; cases hbk
            · rw [e1] at hbk; cases hbk; exact ⟨e4, e2⟩
          refine X.aload_n (i := 2) rfl rfl dX2_save_45 (pc' := 46) rfl ?_
          refine X.aload_n (i := 1) rfl rfl dX2_save_46 (pc' := 47) rfl ?_
          refine X.callV (ci := 0) (a := b) (rm := rm_X0_become) (As := [rf c]) (st := []) dX2_save_47 ck_X2_25 rfl (by decide) hBC.1.1 rfl rfl ⟨Nat.le_of_ble_eq_true rfl, Nat.le_of_ble_eq_true rfl⟩ (Nat.le_of_ble_eq_true rfl) (Nat.le_of_ble_eq_true rfl) (Nat.le_of_ble_eq_true rfl) (pc' := 50) rfl (k_X0_become hBC.1 hRk (by omega)) (fun q3 hq3 eq3 => ?_) (fun _ _ x1 => x1.elim)
          obtain ⟨rfl, hRE, hFE⟩ := eq3
          have hHE : HiS hq3 a := ⟨by rw [hFE.2.1]; exact hHk.1.1, by rw [hFE.2.2.1]; exact hHk.1.2.1, by rw [hFE.2.1]; exact hHk.1.2.2⟩
          have hzE : mI hq3 a 0 = y := by rw [hFE.2.2.2.2 a (by omega)]; exact hyk
          refine X.aload_n (i := 0) rfl rfl dX2_save_50 (pc' := 51) rfl ?_
          refine X.dup rfl dX2_save_51 (pc' := 52) rfl ?_
          refine X.getI (x := mI hq3 a 0) fk_X2_17 xcl_2 dX2_save_52 (by decide) hHE.1 rfl (pc' := 55) rfl (fun r4 => ?_)
          obtain ⟨r4a, r4b⟩ := r4
          refine X.iconst dX2_save_55 (pc' := 56) rfl ?_
          refine X.iadd dX2_save_56 (pc' := 57) rfl ?_
          refine X.putI fk_X2_17 xcl_2 ⟨_, rfl, Or.inl rfl⟩ dX2_save_57 (Or.inl rfl) ⟨by omega, by omega⟩ hHE.1 (pc' := 60) rfl ?_
          refine X.genH (fun h5 hh5 => ?_)
          have wh5 : ∀ (w0 : Nat) (w1 : Int), mI h5 w0 w1 = if w0 = a ∧ w1 = 0 then (mI hq3 a 0) + 1 else mI hq3 w0 w1 := fun _ _ => by rw [hh5]; rfl
          have S6 : HiS h5 a := by rw [hh5]; exact hHE
          refine X.vret dX2_save_60 rfl (Nat.le_of_ble_eq_true rfl) (Nat.le_of_ble_eq_true rfl) ?_
          subst hPR
          have hP := HR_put (k := h5) (Sw := psh z Sv A) hHk hy6 hbk hFE hRE (by omega) ⟨by rw [hh5]; rfl, by rw [hh5]; rfl, by rw [hh5]; rfl, by rw [hh5]; rfl⟩ (fun c j => by rw [wh5, hzE]) hSy (by unfold psh; rw [if_pos (by omega)])
          rw [hyz] at hP
          exact ⟨rfl, hP.1, (hFg.tr hFk).tr hP.2⟩
        refine J45 g b ?_
        exact ⟨hHg, HF.rf, hRg, by rw [← hy]; exact hb⟩
      · refine X.new (ci := 0) dX2_save_27 xcl_0 (by decide) rfl wd_122 wd_44 wd_22 (Nat.le_of_ble_eq_true rfl) (Nat.le_of_ble_eq_true rfl) (pc' := 30) rfl ?_
        refine X.genH (fun h7 hh7 => ?_)
        have hz0 : mI h7 (mN g) 0 = 0 ∧ mI h7 (mN g) 1 = 0 := by rw [hh7]; exact ⟨by rw [mI_aL, if_pos rfl], by rw [mI_aL, if_pos rfl]⟩
        have hN1 : mN h7 = mN g + 1 := by rw [hh7, mN_aL]
        refine X.dup rfl dX2_save_30 (pc' := 31) rfl ?_
        refine X.callIN (a := mN g) (rm := rm_X0_init) (As := []) (st := [rf (mN g)]) dX2_save_31 ck_X2_24 rfl rfl rfl ⟨Nat.le_of_ble_eq_true rfl, Nat.le_of_ble_eq_true rfl⟩ (Nat.le_of_ble_eq_true rfl) (Nat.le_of_ble_eq_true rfl) (Nat.le_of_ble_eq_true rfl) (pc' := 34) rfl (k_X0_init (by rw [hh7, mT_aL, if_pos rfl]) hN1 hz0.1 hz0.2) (fun q8 hq8 eq8 => ?_)
        obtain ⟨rfl, hRn, hNn⟩ := eq8
        have hNw : NewS g hq8 (mN g) 29 := ⟨hNn.1, fun c hc => by
          obtain ⟨z1, z2, z3, z4⟩ := hNn.2 c hc
          have zc : c ≠ mN g := by omega
          exact ⟨by rw [z1, hh7, mT_aL, if_neg zc], by rw [z2, hh7]; funext j; rw [mI_aL, if_neg zc], by rw [z3, hh7]; funext j; rw [mR_aL, if_neg zc], by rw [z4, hh7]; funext j; rw [mL_aL, if_neg zc]⟩⟩
        have hHn : HiS hq8 a := ⟨by rw [(hNw.sam (a := a) (by omega)).1]; exact hHg.1.1, by rw [(hNw.sam (a := a) (by omega)).2.2.1]; exact hHg.1.2.1, by rw [(hNw.sam (a := a + 1) (by omega)).1]; exact hHg.1.2.2⟩
        have hzn : mI hq8 a 0 = y := by rw [(hNw.sam (a := a) (by omega)).2.1]; exact hHg.2.1
        refine X.astore_n (i := 2) (ls' := [some (rf a), some (rf c), some (rf (mN g))]) (hi := rfl) (hd := dX2_save_34) (by decide) rfl rfl (pc' := 35) rfl ?_
        refine X.aload_n (i := 0) rfl rfl dX2_save_35 (pc' := 36) rfl ?_
        refine X.getR fk_X2_11 xcl_2 dX2_save_36 hHn.1 hHn.2.1 (pc' := 39) rfl ?_
        refine X.aload_n (i := 0) rfl rfl dX2_save_39 (pc' := 40) rfl ?_
        refine X.getI (x := mI hq8 a 0) fk_X2_17 xcl_2 dX2_save_40 (by decide) hHn.1 rfl (pc' := 43) rfl (fun r9 => ?_)
        obtain ⟨r9a, r9b⟩ := r9
        refine X.aload_n (i := 2) rfl rfl dX2_save_43 (pc' := 44) rfl ?_
        refine X.aast14 dX2_save_44 hHn.2.2 (by omega) (by omega) ⟨by omega, by omega⟩ hRn.1.1.1 (pc' := 45) rfl ?_
        refine X.genH (fun h10 hh10 => ?_)
        have wh10 : ∀ (w0 : Nat) (w1 : Int), mR h10 w0 w1 = if w0 = (a + 1) ∧ w1 = mI hq8 a 0 then some (mN g) else mR hq8 w0 w1 := fun _ _ => by rw [hh10]; rfl
        have hKn := HR_new (k := h10) (i := y) hHg ⟨by omega, by omega⟩ (by omega) hNw hRn.1.1 (by omega) (by omega) ⟨by rw [hh10]; rfl, by rw [hh10]; rfl, by rw [hh10]; rfl, by rw [hh10]; rfl⟩ (fun c j => by rw [wh10, hzn]) (by rw [← hy]; exact hb)
        have J45 : ∀ (k : xM) (b : Nat), (HR k a lo y Sy ∧ HF g k a ∧ RC k c A ∧ mR k (a + 1) y = some b) → X Ω RX2 cX2_save 3 none false rm_X2_save PR xNo 29 5699 45 [some (rf a), some (rf c), some (rf b)] [] k := by
          intro k b hinv
          obtain ⟨hHk, hFk, hRk, hbk⟩ := hinv
          have hNk := hFk.1
          have hyk := hHk.2.1
          have hBC : ChS k b ∧ lo ≤ b := by
            rcases hHk.2.2.2.1 y hy0.1 hy6 with e1 | ⟨b2, e1, e2, e3, e4, e5⟩
            · rw [e1.1] at hbk; cases hbk
            · rw [e1] at hbk; cases hbk; exact ⟨e4, e2⟩
          refine X.aload_n (i := 2) rfl rfl dX2_save_45 (pc' := 46) rfl ?_
          refine X.aload_n (i := 1) rfl rfl dX2_save_46 (pc' := 47) rfl ?_
          refine X.callV (ci := 0) (a := b) (rm := rm_X0_become) (As := [rf c]) (st := []) dX2_save_47 ck_X2_25 rfl (by decide) hBC.1.1 rfl rfl ⟨Nat.le_of_ble_eq_true rfl, Nat.le_of_ble_eq_true rfl⟩ (Nat.le_of_ble_eq_true rfl) (Nat.le_of_ble_eq_true rfl) (Nat.le_of_ble_eq_true rfl) (pc' := 50) rfl (k_X0_become hBC.1 hRk (by omega)) (fun q11 hq11 eq11 => ?_) (fun _ _ x1 => x1.elim)
          obtain ⟨rfl, hRE, hFE⟩ := eq11
          have hHE : HiS hq11 a := ⟨by rw [hFE.2.1]; exact hHk.1.1, by rw [hFE.2.2.1]; exact hHk.1.2.1, by rw [hFE.2.1]; exact hHk.1.2.2⟩
          have hzE : mI hq11 a 0 = y := by rw [hFE.2.2.2.2 a (by omega)]; exact hyk
          refine X.aload_n (i := 0) rfl rfl dX2_save_50 (pc' := 51) rfl ?_
          refine X.dup rfl dX2_save_51 (pc' := 52) rfl ?_
          refine X.getI (x := mI hq11 a 0) fk_X2_17 xcl_2 dX2_save_52 (by decide) hHE.1 rfl (pc' := 55) rfl (fun r12 => ?_)
          obtain ⟨r12a, r12b⟩ := r12
          refine X.iconst dX2_save_55 (pc' := 56) rfl ?_
          refine X.iadd dX2_save_56 (pc' := 57) rfl ?_
          refine X.putI fk_X2_17 xcl_2 ⟨_, rfl, Or.inl rfl⟩ dX2_save_57 (Or.inl rfl) ⟨by omega, by omega⟩ hHE.1 (pc' := 60) rfl ?_
          refine X.genH (fun h13 hh13 => ?_)
          have wh13 : ∀ (w0 : Nat) (w1 : Int), mI h13 w0 w1 = if w0 = a ∧ w1 = 0 then (mI hq11 a 0) + 1 else mI hq11 w0 w1 := fun _ _ => by rw [hh13]; rfl
          have S14 : HiS h13 a := by rw [hh13]; exact hHE
          refine X.vret dX2_save_60 rfl (Nat.le_of_ble_eq_true rfl) (Nat.le_of_ble_eq_true rfl) ?_
          subst hPR
          have hP := HR_put (k := h13) (Sw := psh z Sv A) hHk hy6 hbk hFE hRE (by omega) ⟨by rw [hh13]; rfl, by rw [hh13]; rfl, by rw [hh13]; rfl, by rw [hh13]; rfl⟩ (fun c j => by rw [wh13, hzE]) hSy (by unfold psh; rw [if_pos (by omega)])
          rw [hyz] at hP
          exact ⟨rfl, hP.1, (hFg.tr hFk).tr hP.2⟩
        refine J45 h10 (mN g) ?_
        exact ⟨hKn.1, hKn.2, (hRg.sam (fun q z1 z2 => hNw.sam (by omega))).sam (fun q z1 z2 => ⟨by rw [hh10]; rfl, by rw [hh10]; rfl, funext fun j => by rw [wh10, if_neg (by omega)], by rw [hh10]; rfl⟩), by rw [wh10, if_pos ⟨rfl, hzn.symm⟩]⟩
    refine J13 h z Sv ?_
    exact ⟨by omega, hH, HF.rf, hR, by unfold psz; rw [if_neg (by omega)], fun i h1 h2 => by unfold psh psz; rw [if_neg (by omega), if_neg (by omega)]⟩
  · refine X.aload_n (i := 0) rfl rfl dX2_save_9 (pc' := 10) rfl ?_
    refine X.callV (ci := 2) (a := a) (rm := rm_X2_dropOldest) (As := []) (st := []) dX2_save_10 ck_X2_21 rfl (by decide) hH.1.1 rfl rfl ⟨Nat.le_of_ble_eq_true rfl, Nat.le_of_ble_eq_true rfl⟩ (Nat.le_of_ble_eq_true rfl) (Nat.le_of_ble_eq_true rfl) (Nat.le_of_ble_eq_true rfl) (pc' := 13) rfl (k_X2_dropOldest hH.1 (fun i h1 h2 => by
      rcases hH.2.2.2.1 i h1 h2 with e1 | ⟨b, e1, e2, e3, e4, e5⟩
      · omega
      · exact ⟨b, e1, e4.1⟩)) (fun q15 hq15 eq15 => ?_) (fun _ _ x1 => x1.elim)
    obtain ⟨rfl, hD⟩ := eq15
    have ez : z = 6 := by omega
    have hD2 := HR_drop (by rw [← ez]; exact hH) hD (by omega)
    have J13 : ∀ (g : xM) (y : Int) (Sy : Int → aS), (y < 6 ∧ HR g a lo y Sy ∧ HF h g a ∧ RC g c A ∧ y + 1 = psz z ∧ (∀ i, 0 ≤ i → i < y → psh z Sv A i = Sy i)) → X Ω RX2 cX2_save 3 none false rm_X2_save PR xNo 0 0 13 [some (rf a), some (rf c), none] [] g := by
      intro g y Sy hinv
      obtain ⟨hy6, hHg, hFg, hRg, hyz, hSy⟩ := hinv
      have hy := hHg.2.1
      have hy0 := hHg.2.2.1
      have hNg := hFg.1
      refine X.aload_n (i := 0) rfl rfl dX2_save_13 (pc' := 14) rfl ?_
      refine X.getR fk_X2_11 xcl_2 dX2_save_14 hHg.1.1 hHg.1.2.1 (pc' := 17) rfl ?_
      refine X.aload_n (i := 0) rfl rfl dX2_save_17 (pc' := 18) rfl ?_
      refine X.getI (x := mI g a 0) fk_X2_17 xcl_2 dX2_save_18 (by decide) hHg.1.1 rfl (pc' := 21) rfl (fun r16 => ?_)
      obtain ⟨r16a, r16b⟩ := r16
      refine X.aald14 dX2_save_21 hHg.1.2.2 (by omega) (by omega) ⟨by omega, by omega⟩ rfl (pc' := 22) rfl ?_
      refine X.astore_n (i := 2) (ls' := [some (rf a), some (rf c), some (vr (mR g ((a + 1)) (mI g a 0)))]) (hi := rfl) (hd := dX2_save_22) (by decide) rfl rfl (pc' := 23) rfl ?_
      refine X.aload_n (i := 2) rfl rfl dX2_save_23 (pc' := 24) rfl ?_
      refine X.ifnonnull (tgt := 45) dX2_save_24 (by decide) (pc' := 27) rfl (fun b hb => ?_) (fun hb => ?_)
      · rw [hb]
        have J45 : ∀ (k : xM) (b : Nat), (HR k a lo y Sy ∧ HF g k a ∧ RC k c A ∧ mR k (a + 1) y = some b) → X Ω RX2 cX2_save 3 none false rm_X2_save PR xNo 0 0 45 [some (rf a), some (rf c), some (rf b)] [] k := by
          intro k b hinv
          obtain ⟨hHk, hFk, hRk, hbk⟩ := hinv
          have hNk := hFk.1
          have hyk := hHk.2.1
          have hBC : ChS k b ∧ lo ≤ b := by
            rcases hHk.2.2.2.1 y hy0.1 hy6 with e1 | ⟨b2, e1, e2, e3, e4, e5⟩
            · rw [e1.1] at hbk; cases hbk
            · rw [e1] at hbk; cases hbk; exact ⟨e4, e2⟩
          refine X.aload_n (i := 2) rfl rfl dX2_save_45 (pc' := 46) rfl ?_
          refine X.aload_n (i := 1) rfl rfl dX2_save_46 (pc' := 47) rfl ?_
          refine X.callV (ci := 0) (a := b) (rm := rm_X0_become) (As := [rf c]) (st := []) dX2_save_47 ck_X2_25 rfl (by decide) hBC.1.1 rfl rfl ⟨Nat.le_of_ble_eq_true rfl, Nat.le_of_ble_eq_true rfl⟩ (Nat.le_of_ble_eq_true rfl) (Nat.le_of_ble_eq_true rfl) (Nat.le_of_ble_eq_true rfl) (pc' := 50) rfl (k_X0_become hBC.1 hRk (by omega)) (fun q17 hq17 eq17 => ?_) (fun _ _ x1 => x1.elim)
          obtain ⟨rfl, hRE, hFE⟩ := eq17
          have hHE : HiS hq17 a := ⟨by rw [hFE.2.1]; exact hHk.1.1, by rw [hFE.2.2.1]; exact hHk.1.2.1, by rw [hFE.2.1]; exact hHk.1.2.2⟩
          have hzE : mI hq17 a 0 = y := by rw [hFE.2.2.2.2 a (by omega)]; exact hyk
          refine X.aload_n (i := 0) rfl rfl dX2_save_50 (pc' := 51) rfl ?_
          refine X.dup rfl dX2_save_51 (pc' := 52) rfl ?_
          refine X.getI (x := mI hq17 a 0) fk_X2_17 xcl_2 dX2_save_52 (by decide) hHE.1 rfl (pc' := 55) rfl (fun r18 => ?_)
          obtain ⟨r18a, r18b⟩ := r18
          refine X.iconst dX2_save_55 (pc' := 56) rfl ?_
          refine X.iadd dX2_save_56 (pc' := 57) rfl ?_
          refine X.putI fk_X2_17 xcl_2 ⟨_, rfl, Or.inl rfl⟩ dX2_save_57 (Or.inl rfl) ⟨by omega, by omega⟩ hHE.1 (pc' := 60) rfl ?_
          refine X.genH (fun h19 hh19 => ?_)
          have wh19 : ∀ (w0 : Nat) (w1 : Int), mI h19 w0 w1 = if w0 = a ∧ w1 = 0 then (mI hq17 a 0) + 1 else mI hq17 w0 w1 := fun _ _ => by rw [hh19]; rfl
          have S20 : HiS h19 a := by rw [hh19]; exact hHE
          refine X.vret dX2_save_60 rfl (Nat.le_of_ble_eq_true rfl) (Nat.le_of_ble_eq_true rfl) ?_
          subst hPR
          have hP := HR_put (k := h19) (Sw := psh z Sv A) hHk hy6 hbk hFE hRE (by omega) ⟨by rw [hh19]; rfl, by rw [hh19]; rfl, by rw [hh19]; rfl, by rw [hh19]; rfl⟩ (fun c j => by rw [wh19, hzE]) hSy (by unfold psh; rw [if_pos (by omega)])
          rw [hyz] at hP
          exact ⟨rfl, hP.1, (hFg.tr hFk).tr hP.2⟩
        refine J45 g b ?_
        exact ⟨hHg, HF.rf, hRg, by rw [← hy]; exact hb⟩
      · refine X.new (ci := 0) dX2_save_27 xcl_0 (by decide) rfl wd_122 wd_44 wd_22 (Nat.le_of_ble_eq_true rfl) (Nat.le_of_ble_eq_true rfl) (pc' := 30) rfl ?_
        refine X.genH (fun h21 hh21 => ?_)
        have hz0 : mI h21 (mN g) 0 = 0 ∧ mI h21 (mN g) 1 = 0 := by rw [hh21]; exact ⟨by rw [mI_aL, if_pos rfl], by rw [mI_aL, if_pos rfl]⟩
        have hN1 : mN h21 = mN g + 1 := by rw [hh21, mN_aL]
        refine X.dup rfl dX2_save_30 (pc' := 31) rfl ?_
        refine X.callIN (a := mN g) (rm := rm_X0_init) (As := []) (st := [rf (mN g)]) dX2_save_31 ck_X2_24 rfl rfl rfl ⟨Nat.le_of_ble_eq_true rfl, Nat.le_of_ble_eq_true rfl⟩ (Nat.le_of_ble_eq_true rfl) (Nat.le_of_ble_eq_true rfl) (Nat.le_of_ble_eq_true rfl) (pc' := 34) rfl (k_X0_init (by rw [hh21, mT_aL, if_pos rfl]) hN1 hz0.1 hz0.2) (fun q22 hq22 eq22 => ?_)
        obtain ⟨rfl, hRn, hNn⟩ := eq22
        have hNw : NewS g hq22 (mN g) 29 := ⟨hNn.1, fun c hc => by
          obtain ⟨z1, z2, z3, z4⟩ := hNn.2 c hc
          have zc : c ≠ mN g := by omega
          exact ⟨by rw [z1, hh21, mT_aL, if_neg zc], by rw [z2, hh21]; funext j; rw [mI_aL, if_neg zc], by rw [z3, hh21]; funext j; rw [mR_aL, if_neg zc], by rw [z4, hh21]; funext j; rw [mL_aL, if_neg zc]⟩⟩
        have hHn : HiS hq22 a := ⟨by rw [(hNw.sam (a := a) (by omega)).1]; exact hHg.1.1, by rw [(hNw.sam (a := a) (by omega)).2.2.1]; exact hHg.1.2.1, by rw [(hNw.sam (a := a + 1) (by omega)).1]; exact hHg.1.2.2⟩
        have hzn : mI hq22 a 0 = y := by rw [(hNw.sam (a := a) (by omega)).2.1]; exact hHg.2.1
        refine X.astore_n (i := 2) (ls' := [some (rf a), some (rf c), some (rf (mN g))]) (hi := rfl) (hd := dX2_save_34) (by decide) rfl rfl (pc' := 35) rfl ?_
        refine X.aload_n (i := 0) rfl rfl dX2_save_35 (pc' := 36) rfl ?_
        refine X.getR fk_X2_11 xcl_2 dX2_save_36 hHn.1 hHn.2.1 (pc' := 39) rfl ?_
        refine X.aload_n (i := 0) rfl rfl dX2_save_39 (pc' := 40) rfl ?_
        refine X.getI (x := mI hq22 a 0) fk_X2_17 xcl_2 dX2_save_40 (by decide) hHn.1 rfl (pc' := 43) rfl (fun r23 => ?_)
        obtain ⟨r23a, r23b⟩ := r23
        refine X.aload_n (i := 2) rfl rfl dX2_save_43 (pc' := 44) rfl ?_
        refine X.aast14 dX2_save_44 hHn.2.2 (by omega) (by omega) ⟨by omega, by omega⟩ hRn.1.1.1 (pc' := 45) rfl ?_
        refine X.genH (fun h24 hh24 => ?_)
        have wh24 : ∀ (w0 : Nat) (w1 : Int), mR h24 w0 w1 = if w0 = (a + 1) ∧ w1 = mI hq22 a 0 then some (mN g) else mR hq22 w0 w1 := fun _ _ => by rw [hh24]; rfl
        have hKn := HR_new (k := h24) (i := y) hHg ⟨by omega, by omega⟩ (by omega) hNw hRn.1.1 (by omega) (by omega) ⟨by rw [hh24]; rfl, by rw [hh24]; rfl, by rw [hh24]; rfl, by rw [hh24]; rfl⟩ (fun c j => by rw [wh24, hzn]) (by rw [← hy]; exact hb)
        have J45 : ∀ (k : xM) (b : Nat), (HR k a lo y Sy ∧ HF g k a ∧ RC k c A ∧ mR k (a + 1) y = some b) → X Ω RX2 cX2_save 3 none false rm_X2_save PR xNo 29 5699 45 [some (rf a), some (rf c), some (rf b)] [] k := by
          intro k b hinv
          obtain ⟨hHk, hFk, hRk, hbk⟩ := hinv
          have hNk := hFk.1
          have hyk := hHk.2.1
          have hBC : ChS k b ∧ lo ≤ b := by
            rcases hHk.2.2.2.1 y hy0.1 hy6 with e1 | ⟨b2, e1, e2, e3, e4, e5⟩
            · rw [e1.1] at hbk; cases hbk
            · rw [e1] at hbk; cases hbk; exact ⟨e4, e2⟩
          refine X.aload_n (i := 2) rfl rfl dX2_save_45 (pc' := 46) rfl ?_
          refine X.aload_n (i := 1) rfl rfl dX2_save_46 (pc' := 47) rfl ?_
          refine X.callV (ci := 0) (a := b) (rm := rm_X0_become) (As := [rf c]) (st := []) dX2_save_47 ck_X2_25 rfl (by decide) hBC.1.1 rfl rfl ⟨Nat.le_of_ble_eq_true rfl, Nat.le_of_ble_eq_true rfl⟩ (Nat.le_of_ble_eq_true rfl) (Nat.le_of_ble_eq_true rfl) (Nat.le_of_ble_eq_true rfl) (pc' := 50) rfl (k_X0_become hBC.1 hRk (by omega)) (fun q25 hq25 eq25 => ?_) (fun _ _ x1 => x1.elim)
          obtain ⟨rfl, hRE, hFE⟩ := eq25
          have hHE : HiS hq25 a := ⟨by rw [hFE.2.1]; exact hHk.1.1, by rw [hFE.2.2.1]; exact hHk.1.2.1, by rw [hFE.2.1]; exact hHk.1.2.2⟩
          have hzE : mI hq25 a 0 = y := by rw [hFE.2.2.2.2 a (by omega)]; exact hyk
          refine X.aload_n (i := 0) rfl rfl dX2_save_50 (pc' := 51) rfl ?_
          refine X.dup rfl dX2_save_51 (pc' := 52) rfl ?_
          refine X.getI (x := mI hq25 a 0) fk_X2_17 xcl_2 dX2_save_52 (by decide) hHE.1 rfl (pc' := 55) rfl (fun r26 => ?_)
          obtain ⟨r26a, r26b⟩ := r26
          refine X.iconst dX2_save_55 (pc' := 56) rfl ?_
          refine X.iadd dX2_save_56 (pc' := 57) rfl ?_
          refine X.putI fk_X2_17 xcl_2 ⟨_, rfl, Or.inl rfl⟩ dX2_save_57 (Or.inl rfl) ⟨by omega, by omega⟩ hHE.1 (pc' := 60) rfl ?_
          refine X.genH (fun h27 hh27 => ?_)
          have wh27 : ∀ (w0 : Nat) (w1 : Int), mI h27 w0 w1 = if w0 = a ∧ w1 = 0 then (mI hq25 a 0) + 1 else mI hq25 w0 w1 := fun _ _ => by rw [hh27]; rfl
          have S28 : HiS h27 a := by rw [hh27]; exact hHE
          refine X.vret dX2_save_60 rfl (Nat.le_of_ble_eq_true rfl) (Nat.le_of_ble_eq_true rfl) ?_
          subst hPR
          have hP := HR_put (k := h27) (Sw := psh z Sv A) hHk hy6 hbk hFE hRE (by omega) ⟨by rw [hh27]; rfl, by rw [hh27]; rfl, by rw [hh27]; rfl, by rw [hh27]; rfl⟩ (fun c j => by rw [wh27, hzE]) hSy (by unfold psh; rw [if_pos (by omega)])
          rw [hyz] at hP
          exact ⟨rfl, hP.1, (hFg.tr hFk).tr hP.2⟩
        refine J45 h24 (mN g) ?_
        exact ⟨hKn.1, hKn.2, (hRg.sam (fun q z1 z2 => hNw.sam (by omega))).sam (fun q z1 z2 => ⟨by rw [hh24]; rfl, by rw [hh24]; rfl, funext fun j => by rw [wh24, if_neg (by omega)], by rw [hh24]; rfl⟩), by rw [wh24, if_pos ⟨rfl, hzn.symm⟩]⟩
    refine J13 hq15 5 (fun i => Sv (i + 1)) ?_
    exact ⟨by decide, hD2.1, hD2.2, hR.sam (fun q z1 z2 => hD.sam (by omega) (by omega)), by unfold psz; rw [if_pos ez]; rfl, fun i h1 h2 => by
      show (if i = psz z - 1 then A else if z = 6 then Sv (i + 1) else Sv i) = Sv (i + 1)
      rw [if_neg (by unfold psz; omega), if_pos ez]⟩
set_option maxHeartbeats 4000000 in
set_option maxRecDepth 100000 in
theorem k_X1_take {Ω : xO} {h : xM} {a : Nat} {x : Int64} (hT : mT h a = some (1, 1)) : xCt Ω yX1_take cX1_take 3 none rm_X1_take [rf a, vl x] h (fun q h' => q = none ∧ h' = sL h a 0 (31 * mL h a 0 + x)) xNo := by
  refine xCt_of (ini := false) (by decide +kernel) (Nat.le_of_ble_eq_true rfl) (fun q => absurd q (by decide)) ?_
  generalize hPR : (fun q h' => q = none ∧ h' = sL h a 0 (31 * mL h a 0 + x) : Option xV → xM → Prop) = PR
  have K0 : X Ω RX1 cX1_take 3 none false rm_X1_take PR xNo 0 0 0 [some (rf a), some (vl x), none] [] h := ?_
  exact K0
  refine X.aload_n (i := 0) rfl rfl dX1_take_0 (pc' := 1) rfl ?_
  refine X.ldc2 (v := 31) wd_262 dX1_take_1 (pc' := 4) rfl ?_
  refine X.aload_n (i := 0) rfl rfl dX1_take_4 (pc' := 5) rfl ?_
  refine X.getL (x := mL h a 0) fk_X1_11 xcl_1 dX1_take_5 hT rfl (pc' := 8) rfl ?_
  refine X.lmul dX1_take_8 (pc' := 9) rfl ?_
  refine X.lload_n (i := 1) rfl rfl dX1_take_9 (pc' := 10) rfl ?_
  refine X.ladd dX1_take_10 (pc' := 11) rfl ?_
  refine X.putL fk_X1_11 xcl_1 ⟨_, rfl, Or.inl rfl⟩ dX1_take_11 hT (pc' := 14) rfl ?_
  refine X.genH (fun h1 hh1 => ?_)
  have wh1 : ∀ (w0 : Nat) (w1 : Int), mL h1 w0 w1 = if w0 = a ∧ w1 = 0 then (31 * (mL h a 0)) + x else mL h w0 w1 := fun _ _ => by rw [hh1]; rfl
  have S2 : mT h1 a = some (1, 1) := by rw [hh1]; exact hT
  refine X.vret dX1_take_14 rfl (Nat.le_of_ble_eq_true rfl) (Nat.le_of_ble_eq_true rfl) ?_
  subst hPR
  exact ⟨rfl, hh1⟩
