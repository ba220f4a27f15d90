set_option maxHeartbeats 4000000 in
set_option maxRecDepth 100000 in
theorem k_X6_readsAll {Ω : xO} {h : xM} {m : Nat} {n : Int} {G : Int → Int} (hS : MoS h m) (t5 : mI h m 5 = n) (hn : 0 ≤ n ∧ n ≤ 60) (hG : ∀ j, 0 ≤ j → j < n → mI h (m + 2) j = G j ∧ (33 ≤ G j ∧ G j ≤ 126)) : xCt Ω yX6_readsAll cX6_readsAll 2 none rm_X6_readsAll [rf m] h (fun q h' => q = none ∧ FT h h' m ∧ ∃ w a, TS h' m n G w a ∧ ((w = 0 ∧ a = n ∧ acc (rn G n)) ∨ (w = 1 ∧ Bad G n a))) xNo := by
  refine xCt_of (ini := false) (by decide +kernel) (Nat.le_of_ble_eq_true rfl) (fun q => absurd q (by decide)) ?_
  generalize hPR : (fun q h' => q = none ∧ FT h h' m ∧ ∃ w a, TS h' m n G w a ∧ ((w = 0 ∧ a = n ∧ acc (rn G n)) ∨ (w = 1 ∧ Bad G n a)) : Option xV → xM → Prop) = PR
  have K0 : X Ω RX6 cX6_readsAll 2 none false rm_X6_readsAll PR xNo 0 0 0 [some (rf m), none] [] h := ?_
  exact K0
  refine X.aload_n (i := 0) rfl rfl dX6_readsAll_0 (pc' := 1) rfl ?_
  refine X.iconst dX6_readsAll_1 (pc' := 2) rfl ?_
  refine X.putI fk_X6_82 xcl_6 ⟨_, rfl, Or.inl rfl⟩ dX6_readsAll_2 (Or.inl rfl) ⟨by omega, by omega⟩ hS.1 (pc' := 5) rfl ?_
  refine X.genH (fun h1 hh1 => ?_)
  have wh1 : ∀ (w0 : Nat) (w1 : Int), mI h1 w0 w1 = if w0 = m ∧ w1 = 6 then 0 else mI h w0 w1 := fun _ _ => by rw [hh1]; rfl
  have S2 : MoS h1 m := by rw [hh1]; exact hS
  refine X.aload_n (i := 0) rfl rfl dX6_readsAll_5 (pc' := 6) rfl ?_
  refine X.iconst dX6_readsAll_6 (pc' := 7) rfl ?_
  refine X.putI fk_X6_78 xcl_6 ⟨_, rfl, Or.inl rfl⟩ dX6_readsAll_7 (Or.inr ⟨rfl, by omega⟩) ⟨by omega, by omega⟩ S2.1 (pc' := 10) rfl ?_
  refine X.genH (fun h3 hh3 => ?_)
  have wh3 : ∀ (w0 : Nat) (w1 : Int), mI h3 w0 w1 = if w0 = m ∧ w1 = 7 then 0 else mI h1 w0 w1 := fun _ _ => by rw [hh3]; rfl
  have S4 : MoS h3 m := by rw [hh3]; exact S2
  have hF1 : FT h h3 m := by rw [hh3, hh1]; exact FT.w (FT.w FT.rf (by omega)) (by omega)
  have hS1 : MoS h3 m := hS.ft hF1.1
  have hT1 : TS h3 m n G 0 0 := ⟨⟨by rw [hF1.2.2.2 5 (by omega)]; exact t5, by rw [wh3, if_neg (by omega), wh1, if_pos ⟨rfl, rfl⟩], by rw [wh3, if_pos ⟨rfl, rfl⟩]⟩, Or.inl rfl, ⟨by omega, by omega, by omega⟩, by rw [hF1.2.2.1]; exact hG⟩
  refine X.iconst dX6_readsAll_10 (pc' := 11) rfl ?_
  refine X.istore_n (i := 1) (ls' := [some (rf m), some (vi 1)]) (hi := rfl) (hd := dX6_readsAll_11) (by decide) rfl rfl (pc' := 12) rfl ?_
  have L12 : ∀ (n12 : Nat) (g : xM) (l : Int) (w : Int) (a : Int), (l.toNat * 200 + (2 * (n + 1 - a)).toNat) < n12 → (FT h g m ∧ TS g m n G w a ∧ ((l = 1 ∧ w = 0 ∧ rn G a = 0) ∨ (l = 0 ∧ ((w = 1 ∧ Bad G n a) ∨ (w = 0 ∧ acc (rn G a) ∧ (a < n → rn G (a + 1) = -1)))))) → X Ω RX6 cX6_readsAll 2 none false rm_X6_readsAll PR xNo 0 0 12 [some (rf m), some (vi l)] [] g := by
    intro n12
    induction n12 with
    | zero => intro g l w a hm _; exfalso; omega
    | succ n12 ih12 =>
      intro g l w a hm12 hinv
      obtain ⟨hFg, hTg, hm⟩ := hinv
      have hSg : MoS g m := hS.ft hFg.1
      have tgr := hTg.2.2.1
      have tg7 := hTg.1.2.2
      have tg6 := hTg.1.2.1
      have tg5 := hTg.1.1
      have tgw := hTg.2.1
      have hl01 : l = 0 ∨ l = 1 := by omega
      refine X.iload_n (i := 1) rfl rfl dX6_readsAll_12 (pc' := 13) rfl ?_
      refine X.if_eq (tgt := 50) dX6_readsAll_13 ⟨by omega, by omega⟩ (by decide) (pc' := 16) rfl (fun c13 => ?_) (fun c13 => ?_)
      · refine X.aload_n (i := 0) rfl rfl dX6_readsAll_50 (pc' := 51) rfl ?_
        refine X.aload_n (i := 0) rfl rfl dX6_readsAll_51 (pc' := 52) rfl ?_
        refine X.getI (x := mI g m 7) fk_X6_78 xcl_6 dX6_readsAll_52 (by decide) hSg.1 rfl (pc' := 55) rfl (fun r5 => ?_)
        obtain ⟨r5a, r5b⟩ := r5
        refine X.if_ne (tgt := 69) dX6_readsAll_55 ⟨by omega, by omega⟩ (by decide) (pc' := 58) rfl (fun c55 => ?_) (fun c55 => ?_)
        · refine X.iconst dX6_readsAll_69 (pc' := 70) rfl ?_
          refine X.goto (tgt := 74) dX6_readsAll_70 (by decide) ?_
          refine X.putI fk_X6_78 xcl_6 ⟨_, rfl, Or.inl rfl⟩ dX6_readsAll_74 (Or.inr ⟨rfl, by omega⟩) ⟨by omega, by omega⟩ hSg.1 (pc' := 77) rfl ?_
          refine X.genH (fun h6 hh6 => ?_)
          have wh6 : ∀ (w0 : Nat) (w1 : Int), mI h6 w0 w1 = if w0 = m ∧ w1 = 7 then 1 else mI g w0 w1 := fun _ _ => by rw [hh6]; rfl
          have S7 : MoS h6 m := by rw [hh6]; exact hSg
          refine X.vret dX6_readsAll_77 rfl (Nat.le_of_ble_eq_true rfl) (Nat.le_of_ble_eq_true rfl) ?_
          subst hPR
          have hF4 : FT h h6 m := by rw [hh6]; exact FT.w hFg (by omega)
          have hT4 : TS h6 m n G 1 a := hTg.ft (by rw [hh6]; exact FT.w FT.rf (by omega)) (by rw [wh6, if_neg (by omega)]; exact hTg.1.2.1) (by rw [wh6, if_pos ⟨rfl, rfl⟩]) (by omega) ⟨by omega, by omega⟩
          refine ⟨rfl, hF4, 1, a, hT4, ?_⟩
          rcases hm with ⟨y1, y2, y3⟩ | ⟨y1, ⟨y2, y3⟩ | ⟨y2, y3, y4⟩⟩
          · exfalso; omega
          · exact Or.inr ⟨rfl, y3⟩
          · first
            | (exfalso; omega)
            | exact Or.inr ⟨rfl, by unfold acc at y3; omega, Or.inr ⟨by omega, y4 (by omega)⟩⟩
        · refine X.aload_n (i := 0) rfl rfl dX6_readsAll_58 (pc' := 59) rfl ?_
          refine X.getI (x := mI g m 6) fk_X6_82 xcl_6 dX6_readsAll_59 (by decide) hSg.1 rfl (pc' := 62) rfl (fun r8 => ?_)
          obtain ⟨r8a, r8b⟩ := r8
          refine X.aload_n (i := 0) rfl rfl dX6_readsAll_62 (pc' := 63) rfl ?_
          refine X.getI (x := mI g m 5) fk_X6_75 xcl_6 dX6_readsAll_63 (by decide) hSg.1 rfl (pc' := 66) rfl (fun r9 => ?_)
          obtain ⟨r9a, r9b⟩ := r9
          refine X.icmp_ge (tgt := 73) dX6_readsAll_66 ⟨by omega, by omega⟩ ⟨by omega, by omega⟩ (by decide) (pc' := 69) rfl (fun c66 => ?_) (fun c66 => ?_)
          · refine X.iconst dX6_readsAll_73 (pc' := 74) rfl ?_
            refine X.putI fk_X6_78 xcl_6 ⟨_, rfl, Or.inl rfl⟩ dX6_readsAll_74 (Or.inr ⟨rfl, by omega⟩) ⟨by omega, by omega⟩ hSg.1 (pc' := 77) rfl ?_
            refine X.genH (fun h10 hh10 => ?_)
            have wh10 : ∀ (w0 : Nat) (w1 : Int), mI h10 w0 w1 = if w0 = m ∧ w1 = 7 then 0 else mI g w0 w1 := fun _ _ => by rw [hh10]; rfl
            have S11 : MoS h10 m := by rw [hh10]; exact hSg
            refine X.vret dX6_readsAll_77 rfl (Nat.le_of_ble_eq_true rfl) (Nat.le_of_ble_eq_true rfl) ?_
            subst hPR
            have hF4 : FT h h10 m := by rw [hh10]; exact FT.w hFg (by omega)
            have hT4 : TS h10 m n G 0 a := hTg.ft (by rw [hh10]; exact FT.w FT.rf (by omega)) (by rw [wh10, if_neg (by omega)]; exact hTg.1.2.1) (by rw [wh10, if_pos ⟨rfl, rfl⟩]) (by omega) ⟨by omega, by omega⟩
            refine ⟨rfl, hF4, 0, a, hT4, ?_⟩
            rcases hm with ⟨y1, y2, y3⟩ | ⟨y1, ⟨y2, y3⟩ | ⟨y2, y3, y4⟩⟩
            · exfalso; omega
            · exfalso; omega
            · have e9 : a = n := by omega
              exact Or.inl ⟨rfl, e9, by rw [← e9]; exact y3⟩
          · refine X.iconst dX6_readsAll_69 (pc' := 70) rfl ?_
            refine X.goto (tgt := 74) dX6_readsAll_70 (by decide) ?_
            refine X.putI fk_X6_78 xcl_6 ⟨_, rfl, Or.inl rfl⟩ dX6_readsAll_74 (Or.inr ⟨rfl, by omega⟩) ⟨by omega, by omega⟩ hSg.1 (pc' := 77) rfl ?_
            refine X.genH (fun h12 hh12 => ?_)
            have wh12 : ∀ (w0 : Nat) (w1 : Int), mI h12 w0 w1 = if w0 = m ∧ w1 = 7 then 1 else mI g w0 w1 := fun _ _ => by rw [hh12]; rfl
            have S13 : MoS h12 m := by rw [hh12]; exact hSg
            refine X.vret dX6_readsAll_77 rfl (Nat.le_of_ble_eq_true rfl) (Nat.le_of_ble_eq_true rfl) ?_
            subst hPR
            have hF4 : FT h h12 m := by rw [hh12]; exact FT.w hFg (by omega)
            have hT4 : TS h12 m n G 1 a := hTg.ft (by rw [hh12]; exact FT.w FT.rf (by omega)) (by rw [wh12, if_neg (by omega)]; exact hTg.1.2.1) (by rw [wh12, if_pos ⟨rfl, rfl⟩]) (by omega) ⟨by omega, by omega⟩
            refine ⟨rfl, hF4, 1, a, hT4, ?_⟩
            rcases hm with ⟨y1, y2, y3⟩ | ⟨y1, ⟨y2, y3⟩ | ⟨y2, y3, y4⟩⟩
            · exfalso; omega
            · exact Or.inr ⟨rfl, y3⟩
            · first
              | (exfalso; omega)
              | exact Or.inr ⟨rfl, by unfold acc at y3; omega, Or.inr ⟨by omega, y4 (by omega)⟩⟩
      · refine X.aload_n (i := 0) rfl rfl dX6_readsAll_16 (pc' := 17) rfl ?_
        refine X.callV (ci := 6) (a := m) (rm := rm_X6_reads) (As := []) (st := []) dX6_readsAll_17 ck_X6_111 rfl (by decide) hSg.1 rfl rfl ⟨Nat.le_of_ble_eq_true rfl, Nat.le_of_ble_eq_true rfl⟩ (Nat.le_of_ble_eq_true rfl) (Nat.le_of_ble_eq_true rfl) (Nat.le_of_ble_eq_true rfl) (pc' := 20) rfl (k_X6_reads hSg (by rw [show (0 : Int) = w by omega]; exact hTg) (by omega)) (fun q14 hq14 eq14 => ?_) (fun _ _ x1 => x1.elim)
        obtain ⟨rfl, hF2, e, hRd⟩ := eq14
        have hS2 : MoS hq14 m := hSg.ft hF2.1
        obtain ⟨w2, hT2, hd2⟩ : ∃ w2, TS hq14 m n G w2 e ∧ ((w2 = 1 ∧ Bad G n e) ∨ (w2 = 0 ∧ a < e ∧ acc (rn G e) ∧ (e < n → G e ≠ 59 → rn G (e + 1) = -1))) := by
          rcases hRd with z | z
          · exact ⟨1, z.1, Or.inl ⟨rfl, z.2⟩⟩
          · exact ⟨0, z.1, Or.inr ⟨rfl, z.2.1, z.2.2.1, z.2.2.2.1⟩⟩
        have t2r := hT2.2.2.1
        have e6 := hT2.1.2.1
        refine X.aload_n (i := 0) rfl rfl dX6_readsAll_20 (pc' := 21) rfl ?_
        refine X.bipush (by decide +kernel) dX6_readsAll_21 (pc' := 23) rfl ?_
        refine X.bipush (by decide +kernel) dX6_readsAll_23 (pc' := 25) rfl ?_
        refine X.callV (ci := 6) (a := m) (rm := rm_X6_isNow) (As := [vi 59, vi 59]) (st := []) dX6_readsAll_25 ck_X6_85 rfl (by decide) hS2.1 rfl rfl ⟨Nat.le_of_ble_eq_true rfl, Nat.le_of_ble_eq_true rfl⟩ (Nat.le_of_ble_eq_true rfl) (Nat.le_of_ble_eq_true rfl) (Nat.le_of_ble_eq_true rfl) (pc' := 28) rfl (k_X6_isNow hS2 hT2 ⟨by omega, by omega⟩ ⟨by omega, by omega⟩) (fun q15 hq15 eq15 => ?_) (fun _ _ x1 => x1.elim)
        obtain ⟨rfl, r25, rfl, hr25⟩ := eq15
        refine X.istore_n (i := 1) (ls' := [some (rf m), some (vi r25)]) (hi := rfl) (hd := dX6_readsAll_28) (by decide) rfl rfl (pc' := 29) rfl ?_
        refine X.aload_n (i := 0) rfl rfl dX6_readsAll_29 (pc' := 30) rfl ?_
        refine X.dup rfl dX6_readsAll_30 (pc' := 31) rfl ?_
        refine X.getI (x := mI hq14 m 6) fk_X6_82 xcl_6 dX6_readsAll_31 (by decide) hS2.1 rfl (pc' := 34) rfl (fun r16 => ?_)
        obtain ⟨r16a, r16b⟩ := r16
        refine X.iload_n (i := 1) rfl rfl dX6_readsAll_34 (pc' := 35) rfl ?_
        refine X.if_eq (tgt := 42) dX6_readsAll_35 ⟨by omega, by omega⟩ (by decide) (pc' := 38) rfl (fun c35 => ?_) (fun c35 => ?_)
        · refine X.iconst dX6_readsAll_42 (pc' := 43) rfl ?_
          refine X.iadd dX6_readsAll_43 (pc' := 44) rfl ?_
          refine X.putI fk_X6_82 xcl_6 ⟨_, rfl, Or.inl rfl⟩ dX6_readsAll_44 (Or.inl rfl) ⟨by omega, by omega⟩ hS2.1 (pc' := 47) rfl ?_
          refine X.genH (fun h17 hh17 => ?_)
          have wh17 : ∀ (w0 : Nat) (w1 : Int), mI h17 w0 w1 = if w0 = m ∧ w1 = 6 then (mI hq14 m 6) + 0 else mI hq14 w0 w1 := fun _ _ => by rw [hh17]; rfl
          have S18 : MoS h17 m := by rw [hh17]; exact hS2
          refine X.goto (tgt := 12) dX6_readsAll_47 (by decide) ?_
          refine ih12 h17 r25 w2 (e + 0) (by omega) ?_
          have hF3 : FT h h17 m := by rw [hh17]; exact FT.w (hFg.tr hF2) (by omega)
          have hT3 : TS h17 m n G w2 (e + 0) := hT2.ft (by rw [hh17]; exact FT.w FT.rf (by omega)) (by rw [wh17, if_pos ⟨rfl, rfl⟩, e6]) (by rw [wh17, if_neg (by omega)]; exact hT2.1.2.2) hT2.2.1 ⟨by omega, by omega⟩
          refine ⟨hF3, hT3, ?_⟩
          rcases hd2 with ⟨z1, z2⟩ | ⟨z1, z2, z3, z4⟩
          · exact Or.inr ⟨by omega, Or.inl ⟨z1, by rw [Int.add_zero]; exact z2⟩⟩
          · refine Or.inr ⟨by omega, Or.inr ⟨z1, by rw [Int.add_zero]; exact z3, fun y => ?_⟩⟩
            rw [Int.add_zero] at y ⊢
            exact z4 y (by omega)
        · refine X.iconst dX6_readsAll_38 (pc' := 39) rfl ?_
          refine X.goto (tgt := 43) dX6_readsAll_39 (by decide) ?_
          refine X.iadd dX6_readsAll_43 (pc' := 44) rfl ?_
          refine X.putI fk_X6_82 xcl_6 ⟨_, rfl, Or.inl rfl⟩ dX6_readsAll_44 (Or.inl rfl) ⟨by omega, by omega⟩ hS2.1 (pc' := 47) rfl ?_
          refine X.genH (fun h19 hh19 => ?_)
          have wh19 : ∀ (w0 : Nat) (w1 : Int), mI h19 w0 w1 = if w0 = m ∧ w1 = 6 then (mI hq14 m 6) + 1 else mI hq14 w0 w1 := fun _ _ => by rw [hh19]; rfl
          have S20 : MoS h19 m := by rw [hh19]; exact hS2
          refine X.goto (tgt := 12) dX6_readsAll_47 (by decide) ?_
          refine ih12 h19 r25 w2 (e + 1) (by omega) ?_
          have hF3 : FT h h19 m := by rw [hh19]; exact FT.w (hFg.tr hF2) (by omega)
          have hT3 : TS h19 m n G w2 (e + 1) := hT2.ft (by rw [hh19]; exact FT.w FT.rf (by omega)) (by rw [wh19, if_pos ⟨rfl, rfl⟩, e6]) (by rw [wh19, if_neg (by omega)]; exact hT2.1.2.2) hT2.2.1 ⟨by omega, by omega⟩
          refine ⟨hF3, hT3, ?_⟩
          rcases hd2 with ⟨z1, z2⟩ | ⟨z1, z2, z3, z4⟩
          · exfalso; omega
          · refine Or.inl ⟨by omega, z1, ?_⟩
            have z5 := rn_at (G := G) (show 0 ≤ e by omega)
            rw [z5, show G e = 59 by omega]
            unfold acc at z3
            rcases z3 with q | q | q | q | q <;> rw [q] <;> rfl
  refine L12 _ h3 1 0 0 (Nat.lt_succ_self _) ?_
  exact ⟨hF1, hT1, Or.inl ⟨rfl, rfl, rfl⟩⟩
set_option maxHeartbeats 4000000 in
set_option maxRecDepth 100000 in
theorem k_X6_firstError {Ω : xO} {h : xM} {m : Nat} {L : lS} (hL : ML h m L) : xCt Ω yX6_firstError cX6_firstError 1 (some .int) rm_X6_firstError [rf m] h (fun q h' => FM h h' m ∧ ∃ r, q = some (vi r) ∧ EPl (lTg L) (lTn L) r ∧ mI h' m 3 = 0 ∧ ML h' m L) xNo := by
  refine xCt_of (ini := false) (by decide +kernel) (Nat.le_of_ble_eq_true rfl) (fun q => absurd q (by decide)) ?_
  generalize hPR : (fun q h' => FM h h' m ∧ ∃ r, q = some (vi r) ∧ EPl (lTg L) (lTn L) r ∧ mI h' m 3 = 0 ∧ ML h' m L : Option xV → xM → Prop) = PR
  have K0 : X Ω RX6 cX6_firstError 1 (some .int) false rm_X6_firstError PR xNo 0 0 0 [some (rf m)] [] h := ?_
  exact K0
  have hz := hL.2.2.1
  have hO := hL.2.2.2.2.2.2.2.2
  have hz6 := hO.2.2.1
  have hA : aOK (lA L) := hO.2.1.1
  have hM := hL.2.1
  obtain ⟨mSt, mB, mW, mWl, mWo, mCo, mHe⟩ := id hM
  obtain ⟨okB, okN, okWl, okS, okW, okM, okC, okH⟩ := id hA
  have hTn := hL.2.2.2.2.2.2.1
  have hTr := hO.2.2.2.2.1
  have hKf := hL.2.2.2.2.1
  have hKb := hO.2.2.2.1
  refine X.aload_n (i := 0) rfl rfl dX6_firstError_0 (pc' := 1) rfl ?_
  refine X.iconst dX6_firstError_1 (pc' := 2) rfl ?_
  refine X.putI fk_X6_21 xcl_6 ⟨_, rfl, Or.inl rfl⟩ dX6_firstError_2 (Or.inl rfl) ⟨by omega, by omega⟩ hL.1.1 (pc' := 5) rfl ?_
  refine X.genH (fun h1 hh1 => ?_)
  have wh1 : ∀ (w0 : Nat) (w1 : Int), mI h1 w0 w1 = if w0 = m ∧ w1 = 3 then 0 else mI h w0 w1 := fun _ _ => by rw [hh1]; rfl
  have S2 : MoS h1 m := by rw [hh1]; exact hL.1
  have hF2 : FM h h1 m := by rw [hh1]; exact FM.rf.w ⟨by omega, by omega⟩
  have hL2 : ML h1 m L := hL.th hF2 (by rw [hh1]; funext j; rw [mI_sI, if_neg (by omega)]) (by rw [hh1]; funext j; rw [mI_sI, if_neg (by omega)]) (fun j z => by rw [hh1, mI_sI, if_neg (by omega)])
  have hT0 : mI h1 m 3 = 0 := by rw [wh1, if_pos ⟨rfl, rfl⟩]
  refine X.aload_n (i := 0) rfl rfl dX6_firstError_5 (pc' := 6) rfl ?_
  refine X.callV (ci := 6) (a := m) (rm := rm_X6_readsAll) (As := []) (st := []) dX6_firstError_6 ck_X6_114 rfl (by decide) hL2.1.1 rfl rfl ⟨Nat.le_of_ble_eq_true rfl, Nat.le_of_ble_eq_true rfl⟩ (Nat.le_of_ble_eq_true rfl) (Nat.le_of_ble_eq_true rfl) (Nat.le_of_ble_eq_true rfl) (pc' := 9) rfl (k_X6_readsAll hL2.1 hL2.2.2.2.2.2.2.1 hO.2.2.2.2.1 (fun j z1 z2 => ⟨hL2.2.2.2.2.2.2.2.1 j z1 z2, hO.2.2.2.2.2 j z1 z2⟩)) (fun q3 hq3 eq3 => ?_) (fun _ _ x1 => x1.elim)
  obtain ⟨rfl, hF3, w, a, hT3, hd3⟩ := eq3
  have hL3 : ML hq3 m L := hL2.ft hF3
  have t37 := hT3.1.2.2
  have t36 := hT3.1.2.1
  have t35 := hT3.1.1
  have t3r := hT3.2.2.1
  refine X.aload_n (i := 0) rfl rfl dX6_firstError_9 (pc' := 10) rfl ?_
  refine X.getI (x := mI hq3 m 7) fk_X6_78 xcl_6 dX6_firstError_10 (by decide) hL3.1.1 rfl (pc' := 13) rfl (fun r4 => ?_)
  obtain ⟨r4a, r4b⟩ := r4
  refine X.if_eq (tgt := 23) dX6_firstError_13 ⟨by omega, by omega⟩ (by decide) (pc' := 16) rfl (fun c13 => ?_) (fun c13 => ?_)
  · refine X.aload_n (i := 0) rfl rfl dX6_firstError_23 (pc' := 24) rfl ?_
    refine X.getI (x := mI hq3 m 5) fk_X6_75 xcl_6 dX6_firstError_24 (by decide) hL3.1.1 rfl (pc' := 27) rfl (fun r5 => ?_)
    obtain ⟨r5a, r5b⟩ := r5
    refine X.iret dX6_firstError_27 (Or.inl rfl) (Nat.le_of_ble_eq_true rfl) (Nat.le_of_ble_eq_true rfl) ?_
    subst hPR
    refine ⟨hF2.tr hF3.1, _, rfl, ?_, by rw [hF3.2.2.2 3 (by omega)]; exact hT0, hL3⟩
    rcases hd3 with ⟨z1, z2, z3⟩ | ⟨z1, z2⟩
    · rw [t35]
      exact ⟨⟨by omega, by omega⟩, by unfold acc at z3; omega, fun y => absurd y (by omega)⟩
    · exfalso; omega
  · refine X.aload_n (i := 0) rfl rfl dX6_firstError_16 (pc' := 17) rfl ?_
    refine X.getI (x := mI hq3 m 6) fk_X6_82 xcl_6 dX6_firstError_17 (by decide) hL3.1.1 rfl (pc' := 20) rfl (fun r6 => ?_)
    obtain ⟨r6a, r6b⟩ := r6
    refine X.goto (tgt := 27) dX6_firstError_20 (by decide) ?_
    refine X.iret dX6_firstError_27 (Or.inl rfl) (Nat.le_of_ble_eq_true rfl) (Nat.le_of_ble_eq_true rfl) ?_
    subst hPR
    refine ⟨hF2.tr hF3.1, _, rfl, ?_, by rw [hF3.2.2.2 3 (by omega)]; exact hT0, hL3⟩
    rcases hd3 with ⟨z1, z2, z3⟩ | ⟨z1, z2⟩
    · exfalso; omega
    · rw [t36]
      exact ⟨⟨by omega, by omega⟩, z2.1, fun y => by rcases z2.2 with q | q; exact absurd q.1 (by omega); exact q.2⟩
set_option maxHeartbeats 4000000 in
set_option maxRecDepth 100000 in
theorem k_X6_talk {Ω : xO} {h : xM} {m : Nat} {L : lS} (hL : ML h m L) : xCt Ω yX6_talk cX6_talk 4 (some .int) rm_X6_talk [rf m] h (fun q h' => FM h h' m ∧ ∃ v, q = some (vi v) ∧ ((((acc (rn (lTg L) (lTn L))) ∧ (True) ∧ (True)) ∧ mI h' m 3 = 0 ∧ v = (aW (tk L) - aW (lA L)) ∧ ML h' m (sTx (sA (sSave L) (tk L)) 0 (lTg L))) ∨ (py3 (acc (rn (lTg L) (lTn L))) (True) (True) (mI h' m 3) ∧ v = 0 ∧ ML h' m L))) xNo := by
  refine xCt_of (ini := false) (by decide +kernel) (Nat.le_of_ble_eq_true rfl) (fun q => absurd q (by decide)) ?_
  generalize hPR : (fun q h' => FM h h' m ∧ ∃ v, q = some (vi v) ∧ ((((acc (rn (lTg L) (lTn L))) ∧ (True) ∧ (True)) ∧ mI h' m 3 = 0 ∧ v = (aW (tk L) - aW (lA L)) ∧ ML h' m (sTx (sA (sSave L) (tk L)) 0 (lTg L))) ∨ (py3 (acc (rn (lTg L) (lTn L))) (True) (True) (mI h' m 3) ∧ v = 0 ∧ ML h' m L)) : Option xV → xM → Prop) = PR
  have K0 : X Ω RX6 cX6_talk 4 (some .int) false rm_X6_talk PR xNo 0 0 0 [some (rf m), none, none, none] [] h := ?_
  exact K0
  have hz := hL.2.2.1
  have hO := hL.2.2.2.2.2.2.2.2
  have hz6 := hO.2.2.1
  have hA : aOK (lA L) := hO.2.1.1
  have hM := hL.2.1
  obtain ⟨mSt, mB, mW, mWl, mWo, mCo, mHe⟩ := id hM
  obtain ⟨okB, okN, okWl, okS, okW, okM, okC, okH⟩ := id hA
  have hTn := hL.2.2.2.2.2.2.1
  have hTr := hO.2.2.2.2.1
  have hKf := hL.2.2.2.2.1
  have hKb := hO.2.2.2.1
  refine X.aload_n (i := 0) rfl rfl dX6_talk_0 (pc' := 1) rfl ?_
  refine X.callV (ci := 6) (a := m) (rm := rm_X6_readsAll) (As := []) (st := []) dX6_talk_1 ck_X6_114 rfl (by decide) hL.1.1 rfl rfl ⟨Nat.le_of_ble_eq_true rfl, Nat.le_of_ble_eq_true rfl⟩ (Nat.le_of_ble_eq_true rfl) (Nat.le_of_ble_eq_true rfl) (Nat.le_of_ble_eq_true rfl) (pc' := 4) rfl (k_X6_readsAll hL.1 hL.2.2.2.2.2.2.1 hO.2.2.2.2.1 (fun j z1 z2 => ⟨hL.2.2.2.2.2.2.2.1 j z1 z2, hO.2.2.2.2.2 j z1 z2⟩)) (fun q1 hq1 eq1 => ?_) (fun _ _ x1 => x1.elim)
  obtain ⟨rfl, hF3, w, a, hT3, hd3⟩ := eq1
  have hL3 : ML hq1 m L := hL.ft hF3
  have t37 := hT3.1.2.2
  have t36 := hT3.1.2.1
  have t35 := hT3.1.1
  have t3r := hT3.2.2.1
  refine X.aload_n (i := 0) rfl rfl dX6_talk_4 (pc' := 5) rfl ?_
  refine X.aload_n (i := 0) rfl rfl dX6_talk_5 (pc' := 6) rfl ?_
  refine X.getI (x := mI hq1 m 7) fk_X6_78 xcl_6 dX6_talk_6 (by decide) hL3.1.1 rfl (pc' := 9) rfl (fun r2 => ?_)
  obtain ⟨r2a, r2b⟩ := r2
  refine X.if_ne (tgt := 16) dX6_talk_9 ⟨by omega, by omega⟩ (by decide) (pc' := 12) rfl (fun c9 => ?_) (fun c9 => ?_)
  · refine X.iconst dX6_talk_16 (pc' := 17) rfl ?_
    refine X.iconst dX6_talk_17 (pc' := 18) rfl ?_
    refine X.iconst dX6_talk_18 (pc' := 19) rfl ?_
    refine X.callV (ci := 6) (a := m) (rm := rm_X6_goes) (As := [vi 0, vi 1, vi 1]) (st := []) dX6_talk_19 ck_X6_60 rfl (by decide) hL3.1.1 rfl rfl ⟨Nat.le_of_ble_eq_true rfl, Nat.le_of_ble_eq_true rfl⟩ (Nat.le_of_ble_eq_true rfl) (Nat.le_of_ble_eq_true rfl) (Nat.le_of_ble_eq_true rfl) (pc' := 22) rfl (k_X6_goes hL3.1 (by omega) (by omega) (by omega)) (fun q3 hq3 eq3 => ?_) (fun _ _ x1 => x1.elim)
    obtain ⟨hG4, r4, rfl, hr4⟩ := eq3
    have hM3 : mI hq3 m 3 = (if (0 : Int) = 0 then 1 else if (1 : Int) = 0 then 2 else if (1 : Int) = 0 then 3 else 0) := by rw [hG4, mI_sI, if_pos ⟨rfl, rfl⟩]
    have hF4 : FM hq1 hq3 m := by rw [hG4]; exact FM.rf.w ⟨by omega, by omega⟩
    have hFq : FM h hq3 m := hF3.1.tr hF4
    have hL2 : ML hq3 m L := hL3.th hF4 (by rw [hG4]; funext j; rw [mI_sI, if_neg (by omega)]) (by rw [hG4]; funext j; rw [mI_sI, if_neg (by omega)]) (fun j z => by rw [hG4, mI_sI, if_neg (by omega)])
    refine X.if_ne (tgt := 27) dX6_talk_22 ⟨by omega, by omega⟩ (by decide) (pc' := 25) rfl (fun c22 => ?_) (fun c22 => ?_)
    · refine X.aload_n (i := 0) rfl rfl dX6_talk_27 (pc' := 28) rfl ?_
      refine X.callV (ci := 6) (a := m) (rm := rm_X6_saves) (As := []) (st := []) dX6_talk_28 ck_X6_64 rfl (by decide) hL2.1.1 rfl rfl ⟨Nat.le_of_ble_eq_true rfl, Nat.le_of_ble_eq_true rfl⟩ (Nat.le_of_ble_eq_true rfl) (Nat.le_of_ble_eq_true rfl) (Nat.le_of_ble_eq_true rfl) (pc' := 31) rfl (k_X6_saves hL2) (fun q5 hq5 eq5 => ?_) (fun _ _ x1 => x1.elim)
      obtain ⟨rfl, hL5, hG5⟩ := eq5
      have hM30 : mI hq5 m 3 = 0 := by rw [hG5.2.2.1 3 (by omega), hM3]; split <;> (try split) <;> (try split) <;> omega
      have hC : acc (rn (lTg L) (lTn L)) := by
        rcases hd3 with z | z
        · exact z.2.2
        · exfalso; omega
      have hFq5 : FM h hq5 m := hFq.tr hG5.1
      have t57 : mI hq5 m 7 = 0 := by rw [hG5.2.2.1 7 (by omega), hG4, mI_sI, if_neg (by omega), t37]; omega
      refine X.aload_n (i := 0) rfl rfl dX6_talk_31 (pc' := 32) rfl ?_
      refine X.iconst dX6_talk_32 (pc' := 33) rfl ?_
      refine X.putI fk_X6_82 xcl_6 ⟨_, rfl, Or.inl rfl⟩ dX6_talk_33 (Or.inl rfl) ⟨by omega, by omega⟩ hL5.1.1 (pc' := 36) rfl ?_
      refine X.genH (fun h6 hh6 => ?_)
      have wh6 : ∀ (w0 : Nat) (w1 : Int), mI h6 w0 w1 = if w0 = m ∧ w1 = 6 then 0 else mI hq5 w0 w1 := fun _ _ => by rw [hh6]; rfl
      have S7 : MoS h6 m := by rw [hh6]; exact hL5.1
      have hF6 : FM h h6 m := by rw [hh6]; exact hFq5.w ⟨by omega, by omega⟩
      have hL6 : ML h6 m (sSave L) := hL5.th (by rw [hh6]; exact FM.rf.w ⟨by omega, by omega⟩) (by rw [hh6]; funext j; rw [mI_sI, if_neg (by omega)]) (by rw [hh6]; funext j; rw [mI_sI, if_neg (by omega)]) (fun j z => by rw [hh6, mI_sI, if_neg (by omega)])
      refine X.iconst dX6_talk_36 (pc' := 37) rfl ?_
      refine X.istore_n (i := 1) (ls' := [some (rf m), some (vi 0), none, none]) (hi := rfl) (hd := dX6_talk_37) (by decide) rfl rfl (pc' := 38) rfl ?_
      refine X.iconst dX6_talk_38 (pc' := 39) rfl ?_
      refine X.istore_n (i := 2) (ls' := [some (rf m), some (vi 0), some (vi 1), none]) (hi := rfl) (hd := dX6_talk_39) (by decide) rfl rfl (pc' := 40) rfl ?_
      have L40 : ∀ (n40 : Nat) (g : xM) (y : Int) (l : Int) (a : Int) (A1 : aS) (f : Nat), (l.toNat * 100 + (100 - a).toNat) < n40 → (FM h g m ∧ mI g m 3 = 0 ∧ ML g m (sA (sSave L) A1) ∧ mI g m 6 = a ∧ mI g m 7 = 0 ∧ y = aW A1 - aW (lA L) ∧ (0 ≤ a ∧ a ≤ 61) ∧ ((l = 1 ∧ a ≤ lTn L ∧ rn (lTg L) a = 0 ∧ lTn L + 1 - a ≤ f ∧ tkF (lTg L) (lTn L) f a A1 = tk L) ∨ (l = 0 ∧ A1 = tk L))) → X Ω RX6 cX6_talk 4 (some .int) false rm_X6_talk PR xNo 0 0 40 [some (rf m), some (vi y), some (vi l), none] [] g := by
        intro n40
        induction n40 with
        | zero => intro g y l a A1 f hm _; exfalso; omega
        | succ n40 ih40 =>
          intro g y l a A1 f hm40 hinv
          obtain ⟨hFg, hg3, hLg, hg6, hg7, hy, har, hm⟩ := hinv
          have hgO := hLg.2.2.2.2.2.2.2.2
          have okg : aOK A1 := hgO.2.1.1
          have hpg : aPast A1 := hgO.1.1
          have hgW := okg.2.1
          have hgB := okg.1
          have hl01 : l = 0 ∨ l = 1 := by omega
          have hgT : mI g m 5 = lTn L := hLg.2.2.2.2.2.2.1
          refine X.iload_n (i := 2) rfl rfl dX6_talk_40 (pc' := 41) rfl ?_
          refine X.if_eq (tgt := 179) dX6_talk_41 ⟨by omega, by omega⟩ (by decide) (pc' := 44) rfl (fun c41 => ?_) (fun c41 => ?_)
          · refine X.aload_n (i := 0) rfl rfl dX6_talk_179 (pc' := 180) rfl ?_
            refine X.iconst dX6_talk_180 (pc' := 181) rfl ?_
            refine X.putI fk_X6_75 xcl_6 ⟨_, rfl, Or.inl rfl⟩ dX6_talk_181 (Or.inl rfl) ⟨by omega, by omega⟩ hLg.1.1 (pc' := 184) rfl ?_
            refine X.genH (fun h8 hh8 => ?_)
            have wh8 : ∀ (w0 : Nat) (w1 : Int), mI h8 w0 w1 = if w0 = m ∧ w1 = 5 then 0 else mI g w0 w1 := fun _ _ => by rw [hh8]; rfl
            have S9 : MoS h8 m := by rw [hh8]; exact hLg.1
            refine X.iload_n (i := 1) rfl rfl dX6_talk_184 (pc' := 185) rfl ?_
            refine X.iret dX6_talk_185 (Or.inl rfl) (Nat.le_of_ble_eq_true rfl) (Nat.le_of_ble_eq_true rfl) ?_
            subst hPR
            have hA1 : A1 = tk L := by
              rcases hm with z | z
              · exfalso; omega
              · exact z.2
            have hFx : FM g h8 m := by rw [hh8]; exact FM.rf.w ⟨by omega, by omega⟩
            have hL9 := hLg.text (g := h8) (n := 0) (G := lTg L) hFx (funext fun j => by rw [wh8, if_neg (by omega)]) (fun j z => by rw [wh8, if_neg (by omega)]) (by rw [wh8, if_pos ⟨rfl, rfl⟩]) ⟨by decide, by decide⟩ (fun j z1 z2 => by omega)
            rw [hA1] at hL9 hy
            exact ⟨hFg.tr hFx, _, rfl, Or.inl ⟨⟨hC, trivial, trivial⟩, by rw [wh8, if_neg (by omega)]; exact hg3, hy, hL9⟩⟩
          · refine X.aload_n (i := 0) rfl rfl dX6_talk_44 (pc' := 45) rfl ?_
            refine X.callV (ci := 6) (a := m) (rm := rm_X6_reads) (As := []) (st := []) dX6_talk_45 ck_X6_111 rfl (by decide) hLg.1.1 rfl rfl ⟨Nat.le_of_ble_eq_true rfl, Nat.le_of_ble_eq_true rfl⟩ (Nat.le_of_ble_eq_true rfl) (Nat.le_of_ble_eq_true rfl) (Nat.le_of_ble_eq_true rfl) (pc' := 48) rfl (k_X6_reads (n := lTn L) (G := lTg L) hLg.1 ⟨⟨hgT, hg6, hg7⟩, Or.inl rfl, ⟨by omega, by omega, by omega⟩, fun j z1 z2 => ⟨hLg.2.2.2.2.2.2.2.1 j z1 z2, hgO.2.2.2.2.2 j z1 z2⟩⟩ (by omega)) (fun q10 hq10 eq10 => ?_) (fun _ _ x1 => x1.elim)
            obtain ⟨rfl, hF7, e, hRd⟩ := eq10
            have hm1 : a ≤ lTn L ∧ rn (lTg L) a = 0 ∧ lTn L + 1 - a ≤ f ∧ tkF (lTg L) (lTn L) f a A1 = tk L := by
              rcases hm with z | z
              · exact z.2
              · exfalso; omega
            obtain ⟨hT7, hae, hac7, hen, hno, hdat⟩ : RdG hq10 m (lTn L) (lTg L) a e := by
              rcases hRd with z | z
              · exact absurd hC (z.2.no z.1.2.2.1.1)
              · exact z
            have hL7 : ML hq10 m (sA (sSave L) A1) := hLg.ft hF7
            have h7r := hT7.2.2.1
            have h73 : mI hq10 m 3 = 0 := by rw [hF7.2.2.2 3 (by omega)]; exact hg3
            have hFh7 : FM h hq10 m := hFg.tr hF7.1
            have hen2 : e = lTn L ∨ lTg L e = 59 := by
              by_cases z : e = lTn L
              · exact Or.inl z
              · by_cases z2 : lTg L e = 59
                · exact Or.inr z2
                · exact absurd (hen (by omega) z2) (rn_ok hC (by omega) (by omega))
            have hpe : e = pe (lTg L) (lTn L) a := pe_of har.1 (by omega) h7r.2.1 hno hen2
            have hnx : e < lTn L → rn (lTg L) (e + 1) = 0 := fun z => by rw [hpe] at z ⊢; exact (pe_acc hC har.1 hm1.1).2 z
            obtain ⟨f2, rfl⟩ : ∃ f2, f = f2 + 1 := ⟨f - 1, by omega⟩
            have hqq : (mI hq10 m 11 = 0 ∧ 1 ≤ mI hq10 m 10 ∧ mI hq10 m 10 ≤ 50) ∨ (1 ≤ mI hq10 m 11 ∧ mI hq10 m 11 ≤ 60) := by
              rcases hdat with z | z
              · exact Or.inl ⟨z.2.1, z.2.2.2.1, z.2.2.2.2⟩
              · exact Or.inr z.2.1
            have mB7 : mI hq10 (m + 1) 3 = aB A1 := mI_at hL7.2.1.2.1 (by omega)
            refine X.aload_n (i := 0) rfl rfl dX6_talk_48 (pc' := 49) rfl ?_
            refine X.getI (x := mI hq10 m 11) fk_X6_89 xcl_6 dX6_talk_49 (by decide) hL7.1.1 rfl (pc' := 52) rfl (fun r11 => ?_)
            obtain ⟨r11a, r11b⟩ := r11
            have J94 : ∀ (g2 : xM) (l2 : Int) (A2 : aS), (FM h g2 m ∧ mI g2 m 3 = 0 ∧ ML g2 m (sA (sSave L) A2) ∧ (∀ j, mI g2 m j = mI hq10 m j) ∧ mI g2 (m + 3) = mI hq10 (m + 3) ∧ aW A2 = aW A1 ∧ (l2 = 0 ∨ l2 = 1) ∧ ((mI hq10 m 11 = 0 ∧ ((l2 = 1 ∧ tkF (lTg L) (lTn L) f2 (e + 1) A2 = tk L) ∨ (l2 = 0 ∧ A2 = tk L))) ∨ (1 ≤ mI hq10 m 11 ∧ l2 = 1 ∧ A2 = A1))) → X Ω RX6 cX6_talk 4 (some .int) false rm_X6_talk PR xNo 0 0 94 [some (rf m), some (vi y), some (vi l2), none] [] g2 := by
              intro g2 l2 A2 hinv
              obtain ⟨jF, j3, jL, jm, jw, jW, jl, jj⟩ := hinv
              refine X.iconst dX6_talk_94 (pc' := 95) rfl ?_
              refine X.istore_n (i := 3) (ls' := [some (rf m), some (vi y), some (vi l2), some (vi 0)]) (hi := rfl) (hd := dX6_talk_95) (by decide) rfl rfl (pc' := 96) rfl ?_
              have L96 : ∀ (n96 : Nat) (g3 : xM) (y3 : Int) (l3 : Int) (k : Int) (A3 : aS), (mI hq10 m 11 - k).toNat < n96 → (FM h g3 m ∧ mI g3 m 3 = 0 ∧ ML g3 m (sA (sSave L) A3) ∧ (∀ j, mI g3 m j = mI hq10 m j) ∧ mI g3 (m + 3) = mI hq10 (m + 3) ∧ y3 = aW A3 - aW (lA L) ∧ (l3 = 0 ∨ l3 = 1) ∧ (0 ≤ k ∧ k ≤ 60) ∧ ((mI hq10 m 11 = 0 ∧ k = 0 ∧ ((l3 = 1 ∧ tkF (lTg L) (lTn L) f2 (e + 1) A3 = tk L) ∨ (l3 = 0 ∧ A3 = tk L))) ∨ (1 ≤ mI hq10 m 11 ∧ k ≤ mI hq10 m 11 ∧ ((l3 = 1 ∧ spF (lTg L a - 48) (mI hq10 m 9) (mI hq10 (m + 3)) A1 (k).toNat = (A3, 0, 1)) ∨ (l3 = 0 ∧ spF (lTg L a - 48) (mI hq10 m 9) (mI hq10 (m + 3)) A1 (mI hq10 m 11).toNat = (A3, 0, 0)))))) → X Ω RX6 cX6_talk 4 (some .int) false rm_X6_talk PR xNo 0 0 96 [some (rf m), some (vi y3), some (vi l3), some (vi k)] [] g3 := by
                intro n96
                induction n96 with
                | zero => intro g3 y3 l3 k A3 hm _; exfalso; omega
                | succ n96 ih96 =>
                  intro g3 y3 l3 k A3 hm96 hinv
                  obtain ⟨k3F, k33, k3L, k3m, k3w, k3y, k3l, k3k, hmm⟩ := hinv
                  have k3O := k3L.2.2.2.2.2.2.2.2
                  have ok3 : aOK A3 := k3O.2.1.1
                  have pa3 : aPast A3 := k3O.1.1
                  have ok3W := ok3.2.1
                  have ok3B := ok3.1
                  have m11 : mI g3 m 11 = mI hq10 m 11 := k3m 11
                  have m6 : mI g3 m 6 = e := (k3m 6).trans hT7.1.2.1
                  have m7 : mI g3 m 7 = 0 := (k3m 7).trans hT7.1.2.2
                  have m5 : mI g3 m 5 = lTn L := (k3m 5).trans hT7.1.1
                  have hk1r : 0 ≤ mI hq10 m 11 ∧ mI hq10 m 11 ≤ 60 := by omega
                  refine X.iload_n (i := 3) rfl rfl dX6_talk_96 (pc' := 97) rfl ?_
                  refine X.aload_n (i := 0) rfl rfl dX6_talk_97 (pc' := 98) rfl ?_
                  refine X.getI (x := mI g3 m 11) fk_X6_89 xcl_6 dX6_talk_98 (by decide) k3L.1.1 rfl (pc' := 101) rfl (fun r12 => ?_)
                  obtain ⟨r12a, r12b⟩ := r12
                  refine X.icmp_ge (tgt := 145) dX6_talk_101 ⟨by omega, by omega⟩ ⟨by omega, by omega⟩ (by decide) (pc' := 104) rfl (fun c101 => ?_) (fun c101 => ?_)
                  · have hfin : (l3 = 1 ∧ tkF (lTg L) (lTn L) f2 (e + 1) A3 = tk L) ∨ (l3 = 0 ∧ A3 = tk L) := by
                      rcases hmm with ⟨z1, z2, z3⟩ | ⟨z1, z2, z3⟩
                      · exact z3
                      · obtain ⟨d1, d2, d3, d4, d5, d6, d7, d8⟩ : (lTg L a ≠ 46 ∧ (1 ≤ mI hq10 m 11 ∧ mI hq10 m 11 ≤ 60) ∧ mI hq10 m 8 = lTg L a - 48 ∧ (48 ≤ lTg L a ∧ lTg L a ≤ 53) ∧ mI hq10 m 9 = mkOf (lTg L) a e ∧ (-1 ≤ mkOf (lTg L) a e ∧ mkOf (lTg L) a e ≤ 9) ∧ (∀ j, 0 ≤ j → j < mI hq10 m 11 → 1 ≤ mI hq10 (m + 3) j ∧ mI hq10 (m + 3) j ≤ 99) ∧ ∀ A u, scE (lTg L) (lTg L a - 48) u (a + 2) A (weOf (lTg L) a e) = spF (lTg L a - 48) u (mI hq10 (m + 3)) A (mI hq10 m 11).toNat) := by
                          rcases hdat with z | z
                          · exfalso; omega
                          · exact z
                        have hsc := d8 A1 (mI hq10 m 9)
                        rcases z3 with ⟨y1, y2⟩ | ⟨y1, y2⟩
                        · have ek : k = mI hq10 m 11 := by omega
                          rw [← ek, y2, d5] at hsc
                          have hk := tkF_say (A := A1) (f := f2) (show a < lTn L by omega) d1 hpe hsc.symm
                          rw [if_pos rfl] at hk
                          exact Or.inl ⟨y1, hk.symm.trans hm1.2.2.2⟩
                        · rw [y2, d5] at hsc
                          have hk := tkF_say (A := A1) (f := f2) (show a < lTn L by omega) d1 hpe hsc.symm
                          rw [if_neg (show ¬ (0 : Int) = 1 by decide)] at hk
                          exact Or.inr ⟨y1, hk.symm.trans hm1.2.2.2⟩
                    refine X.iload_n (i := 2) rfl rfl dX6_talk_145 (pc' := 146) rfl ?_
                    refine X.if_eq (tgt := 164) dX6_talk_146 ⟨by omega, by omega⟩ (by decide) (pc' := 149) rfl (fun c146 => ?_) (fun c146 => ?_)
                    · refine X.iconst dX6_talk_164 (pc' := 165) rfl ?_
                      refine X.istore_n (i := 2) (ls' := [some (rf m), some (vi y3), some (vi 0), some (vi k)]) (hi := rfl) (hd := dX6_talk_165) (by decide) rfl rfl (pc' := 166) rfl ?_
                      refine X.aload_n (i := 0) rfl rfl dX6_talk_166 (pc' := 167) rfl ?_
                      refine X.dup rfl dX6_talk_167 (pc' := 168) rfl ?_
                      refine X.getI (x := mI g3 m 6) fk_X6_82 xcl_6 dX6_talk_168 (by decide) k3L.1.1 rfl (pc' := 171) rfl (fun r13 => ?_)
                      obtain ⟨r13a, r13b⟩ := r13
                      refine X.iconst dX6_talk_171 (pc' := 172) rfl ?_
                      refine X.iadd dX6_talk_172 (pc' := 173) rfl ?_
                      refine X.putI fk_X6_82 xcl_6 ⟨_, rfl, Or.inl rfl⟩ dX6_talk_173 (Or.inl rfl) ⟨by omega, by omega⟩ k3L.1.1 (pc' := 176) rfl ?_
                      refine X.genH (fun h14 hh14 => ?_)
                      have wh14 : ∀ (w0 : Nat) (w1 : Int), mI h14 w0 w1 = if w0 = m ∧ w1 = 6 then (mI g3 m 6) + 1 else mI g3 w0 w1 := fun _ _ => by rw [hh14]; rfl
                      have S15 : MoS h14 m := by rw [hh14]; exact k3L.1
                      refine X.goto (tgt := 40) dX6_talk_176 (by decide) ?_
                      refine X.mask (bs := [true, true, true, false]) (ls' := [some (rf m), some (vi y3), some (vi 0), none]) rfl ?_
                      refine ih40 h14 y3 0 (e + 1) A3 f2 (by omega) ?_
                      have hF9 : FM h h14 m := by rw [hh14]; exact k3F.w ⟨by omega, by omega⟩
                      have hL9 : ML h14 m (sA (sSave L) A3) := k3L.th (by rw [hh14]; exact FM.rf.w ⟨by omega, by omega⟩) (by rw [hh14]; funext j; rw [mI_sI, if_neg (by omega)]) (by rw [hh14]; funext j; rw [mI_sI, if_neg (by omega)]) (fun j z => by rw [hh14, mI_sI, if_neg (by omega)])
                      refine ⟨hF9, by rw [wh14, if_neg (by omega)]; exact k33, hL9, by rw [wh14, if_pos ⟨rfl, rfl⟩, m6], by rw [wh14, if_neg (by omega)]; exact m7, k3y, by omega, ?_⟩
                      rcases hfin with z | z
                      · first
                        | (exfalso; omega)
                        | exact Or.inr ⟨rfl, by rw [← z.2, tkF_end (by omega)]⟩
                      · exact Or.inr ⟨rfl, z.2⟩
                    · refine X.aload_n (i := 0) rfl rfl dX6_talk_149 (pc' := 150) rfl ?_
                      refine X.getI (x := mI g3 m 6) fk_X6_82 xcl_6 dX6_talk_150 (by decide) k3L.1.1 rfl (pc' := 153) rfl (fun r16 => ?_)
                      obtain ⟨r16a, r16b⟩ := r16
                      refine X.aload_n (i := 0) rfl rfl dX6_talk_153 (pc' := 154) rfl ?_
                      refine X.getI (x := mI g3 m 5) fk_X6_75 xcl_6 dX6_talk_154 (by decide) k3L.1.1 rfl (pc' := 157) rfl (fun r17 => ?_)
                      obtain ⟨r17a, r17b⟩ := r17
                      refine X.icmp_ge (tgt := 164) dX6_talk_157 ⟨by omega, by omega⟩ ⟨by omega, by omega⟩ (by decide) (pc' := 160) rfl (fun c157 => ?_) (fun c157 => ?_)
                      · refine X.iconst dX6_talk_164 (pc' := 165) rfl ?_
                        refine X.istore_n (i := 2) (ls' := [some (rf m), some (vi y3), some (vi 0), some (vi k)]) (hi := rfl) (hd := dX6_talk_165) (by decide) rfl rfl (pc' := 166) rfl ?_
                        refine X.aload_n (i := 0) rfl rfl dX6_talk_166 (pc' := 167) rfl ?_
                        refine X.dup rfl dX6_talk_167 (pc' := 168) rfl ?_
                        refine X.getI (x := mI g3 m 6) fk_X6_82 xcl_6 dX6_talk_168 (by decide) k3L.1.1 rfl (pc' := 171) rfl (fun r18 => ?_)
                        obtain ⟨r18a, r18b⟩ := r18
                        refine X.iconst dX6_talk_171 (pc' := 172) rfl ?_
                        refine X.iadd dX6_talk_172 (pc' := 173) rfl ?_
                        refine X.putI fk_X6_82 xcl_6 ⟨_, rfl, Or.inl rfl⟩ dX6_talk_173 (Or.inl rfl) ⟨by omega, by omega⟩ k3L.1.1 (pc' := 176) rfl ?_
                        refine X.genH (fun h19 hh19 => ?_)
                        have wh19 : ∀ (w0 : Nat) (w1 : Int), mI h19 w0 w1 = if w0 = m ∧ w1 = 6 then (mI g3 m 6) + 1 else mI g3 w0 w1 := fun _ _ => by rw [hh19]; rfl
                        have S20 : MoS h19 m := by rw [hh19]; exact k3L.1
                        refine X.goto (tgt := 40) dX6_talk_176 (by decide) ?_
                        refine X.mask (bs := [true, true, true, false]) (ls' := [some (rf m), some (vi y3), some (vi 0), none]) rfl ?_
                        refine ih40 h19 y3 0 (e + 1) A3 f2 (by omega) ?_
                        have hF9 : FM h h19 m := by rw [hh19]; exact k3F.w ⟨by omega, by omega⟩
                        have hL9 : ML h19 m (sA (sSave L) A3) := k3L.th (by rw [hh19]; exact FM.rf.w ⟨by omega, by omega⟩) (by rw [hh19]; funext j; rw [mI_sI, if_neg (by omega)]) (by rw [hh19]; funext j; rw [mI_sI, if_neg (by omega)]) (fun j z => by rw [hh19, mI_sI, if_neg (by omega)])
                        refine ⟨hF9, by rw [wh19, if_neg (by omega)]; exact k33, hL9, by rw [wh19, if_pos ⟨rfl, rfl⟩, m6], by rw [wh19, if_neg (by omega)]; exact m7, k3y, by omega, ?_⟩
                        rcases hfin with z | z
                        · first
                          | (exfalso; omega)
                          | exact Or.inr ⟨rfl, by rw [← z.2, tkF_end (by omega)]⟩
                        · exact Or.inr ⟨rfl, z.2⟩
                      · refine X.iconst dX6_talk_160 (pc' := 161) rfl ?_
                        refine X.goto (tgt := 165) dX6_talk_161 (by decide) ?_
                        refine X.istore_n (i := 2) (ls' := [some (rf m), some (vi y3), some (vi 1), some (vi k)]) (hi := rfl) (hd := dX6_talk_165) (by decide) rfl rfl (pc' := 166) rfl ?_
                        refine X.aload_n (i := 0) rfl rfl dX6_talk_166 (pc' := 167) rfl ?_
                        refine X.dup rfl dX6_talk_167 (pc' := 168) rfl ?_
                        refine X.getI (x := mI g3 m 6) fk_X6_82 xcl_6 dX6_talk_168 (by decide) k3L.1.1 rfl (pc' := 171) rfl (fun r21 => ?_)
                        obtain ⟨r21a, r21b⟩ := r21
                        refine X.iconst dX6_talk_171 (pc' := 172) rfl ?_
                        refine X.iadd dX6_talk_172 (pc' := 173) rfl ?_
                        refine X.putI fk_X6_82 xcl_6 ⟨_, rfl, Or.inl rfl⟩ dX6_talk_173 (Or.inl rfl) ⟨by omega, by omega⟩ k3L.1.1 (pc' := 176) rfl ?_
                        refine X.genH (fun h22 hh22 => ?_)
                        have wh22 : ∀ (w0 : Nat) (w1 : Int), mI h22 w0 w1 = if w0 = m ∧ w1 = 6 then (mI g3 m 6) + 1 else mI g3 w0 w1 := fun _ _ => by rw [hh22]; rfl
                        have S23 : MoS h22 m := by rw [hh22]; exact k3L.1
                        refine X.goto (tgt := 40) dX6_talk_176 (by decide) ?_
                        refine X.mask (bs := [true, true, true, false]) (ls' := [some (rf m), some (vi y3), some (vi 1), none]) rfl ?_
                        refine ih40 h22 y3 1 (e + 1) A3 f2 (by omega) ?_
                        have hF9 : FM h h22 m := by rw [hh22]; exact k3F.w ⟨by omega, by omega⟩
                        have hL9 : ML h22 m (sA (sSave L) A3) := k3L.th (by rw [hh22]; exact FM.rf.w ⟨by omega, by omega⟩) (by rw [hh22]; funext j; rw [mI_sI, if_neg (by omega)]) (by rw [hh22]; funext j; rw [mI_sI, if_neg (by omega)]) (fun j z => by rw [hh22, mI_sI, if_neg (by omega)])
                        refine ⟨hF9, by rw [wh22, if_neg (by omega)]; exact k33, hL9, by rw [wh22, if_pos ⟨rfl, rfl⟩, m6], by rw [wh22, if_neg (by omega)]; exact m7, k3y, by omega, ?_⟩
                        rcases hfin with z | z
                        · exact Or.inl ⟨rfl, by omega, hnx (by omega), by omega, z.2⟩
                        · exfalso; omega
                  · refine X.iload_n (i := 2) rfl rfl dX6_talk_104 (pc' := 105) rfl ?_
                    refine X.if_eq (tgt := 145) dX6_talk_105 ⟨by omega, by omega⟩ (by decide) (pc' := 108) rfl (fun c105 => ?_) (fun c105 => ?_)
                    · have hfin : (l3 = 1 ∧ tkF (lTg L) (lTn L) f2 (e + 1) A3 = tk L) ∨ (l3 = 0 ∧ A3 = tk L) := by
                        rcases hmm with ⟨z1, z2, z3⟩ | ⟨z1, z2, z3⟩
                        · exact z3
                        · obtain ⟨d1, d2, d3, d4, d5, d6, d7, d8⟩ : (lTg L a ≠ 46 ∧ (1 ≤ mI hq10 m 11 ∧ mI hq10 m 11 ≤ 60) ∧ mI hq10 m 8 = lTg L a - 48 ∧ (48 ≤ lTg L a ∧ lTg L a ≤ 53) ∧ mI hq10 m 9 = mkOf (lTg L) a e ∧ (-1 ≤ mkOf (lTg L) a e ∧ mkOf (lTg L) a e ≤ 9) ∧ (∀ j, 0 ≤ j → j < mI hq10 m 11 → 1 ≤ mI hq10 (m + 3) j ∧ mI hq10 (m + 3) j ≤ 99) ∧ ∀ A u, scE (lTg L) (lTg L a - 48) u (a + 2) A (weOf (lTg L) a e) = spF (lTg L a - 48) u (mI hq10 (m + 3)) A (mI hq10 m 11).toNat) := by
                            rcases hdat with z | z
                            · exfalso; omega
                            · exact z
                          have hsc := d8 A1 (mI hq10 m 9)
                          rcases z3 with ⟨y1, y2⟩ | ⟨y1, y2⟩
                          · have ek : k = mI hq10 m 11 := by omega
                            rw [← ek, y2, d5] at hsc
                            have hk := tkF_say (A := A1) (f := f2) (show a < lTn L by omega) d1 hpe hsc.symm
                            rw [if_pos rfl] at hk
                            exact Or.inl ⟨y1, hk.symm.trans hm1.2.2.2⟩
                          · rw [y2, d5] at hsc
                            have hk := tkF_say (A := A1) (f := f2) (show a < lTn L by omega) d1 hpe hsc.symm
                            rw [if_neg (show ¬ (0 : Int) = 1 by decide)] at hk
                            exact Or.inr ⟨y1, hk.symm.trans hm1.2.2.2⟩
                      refine X.iload_n (i := 2) rfl rfl dX6_talk_145 (pc' := 146) rfl ?_
                      refine X.if_eq (tgt := 164) dX6_talk_146 ⟨by omega, by omega⟩ (by decide) (pc' := 149) rfl (fun c146 => ?_) (fun c146 => by exfalso; omega)
                      refine X.iconst dX6_talk_164 (pc' := 165) rfl ?_
                      refine X.istore_n (i := 2) (ls' := [some (rf m), some (vi y3), some (vi 0), some (vi k)]) (hi := rfl) (hd := dX6_talk_165) (by decide) rfl rfl (pc' := 166) rfl ?_
                      refine X.aload_n (i := 0) rfl rfl dX6_talk_166 (pc' := 167) rfl ?_
                      refine X.dup rfl dX6_talk_167 (pc' := 168) rfl ?_
                      refine X.getI (x := mI g3 m 6) fk_X6_82 xcl_6 dX6_talk_168 (by decide) k3L.1.1 rfl (pc' := 171) rfl (fun r24 => ?_)
                      obtain ⟨r24a, r24b⟩ := r24
                      refine X.iconst dX6_talk_171 (pc' := 172) rfl ?_
                      refine X.iadd dX6_talk_172 (pc' := 173) rfl ?_
                      refine X.putI fk_X6_82 xcl_6 ⟨_, rfl, Or.inl rfl⟩ dX6_talk_173 (Or.inl rfl) ⟨by omega, by omega⟩ k3L.1.1 (pc' := 176) rfl ?_
                      refine X.genH (fun h25 hh25 => ?_)
                      have wh25 : ∀ (w0 : Nat) (w1 : Int), mI h25 w0 w1 = if w0 = m ∧ w1 = 6 then (mI g3 m 6) + 1 else mI g3 w0 w1 := fun _ _ => by rw [hh25]; rfl
                      have S26 : MoS h25 m := by rw [hh25]; exact k3L.1
                      refine X.goto (tgt := 40) dX6_talk_176 (by decide) ?_
                      refine X.mask (bs := [true, true, true, false]) (ls' := [some (rf m), some (vi y3), some (vi 0), none]) rfl ?_
                      refine ih40 h25 y3 0 (e + 1) A3 f2 (by omega) ?_
                      have hF9 : FM h h25 m := by rw [hh25]; exact k3F.w ⟨by omega, by omega⟩
                      have hL9 : ML h25 m (sA (sSave L) A3) := k3L.th (by rw [hh25]; exact FM.rf.w ⟨by omega, by omega⟩) (by rw [hh25]; funext j; rw [mI_sI, if_neg (by omega)]) (by rw [hh25]; funext j; rw [mI_sI, if_neg (by omega)]) (fun j z => by rw [hh25, mI_sI, if_neg (by omega)])
                      refine ⟨hF9, by rw [wh25, if_neg (by omega)]; exact k33, hL9, by rw [wh25, if_pos ⟨rfl, rfl⟩, m6], by rw [wh25, if_neg (by omega)]; exact m7, k3y, by omega, ?_⟩
                      rcases hfin with z | z
                      · first
                        | (exfalso; omega)
                        | exact Or.inr ⟨rfl, by rw [← z.2, tkF_end (by omega)]⟩
                      · exact Or.inr ⟨rfl, z.2⟩
                    · refine X.aload_n (i := 0) rfl rfl dX6_talk_108 (pc' := 109) rfl ?_
                      obtain ⟨d1, d2, d3, d4, d5, d6, d7, d8⟩ : (lTg L a ≠ 46 ∧ (1 ≤ mI hq10 m 11 ∧ mI hq10 m 11 ≤ 60) ∧ mI hq10 m 8 = lTg L a - 48 ∧ (48 ≤ lTg L a ∧ lTg L a ≤ 53) ∧ mI hq10 m 9 = mkOf (lTg L) a e ∧ (-1 ≤ mkOf (lTg L) a e ∧ mkOf (lTg L) a e ≤ 9) ∧ (∀ j, 0 ≤ j → j < mI hq10 m 11 → 1 ≤ mI hq10 (m + 3) j ∧ mI hq10 (m + 3) j ≤ 99) ∧ ∀ A u, scE (lTg L) (lTg L a - 48) u (a + 2) A (weOf (lTg L) a e) = spF (lTg L a - 48) u (mI hq10 (m + 3)) A (mI hq10 m 11).toNat) := by
                        rcases hdat with z | z
                        · exfalso; omega
                        · exact z
                      have e8 : mI g3 m 8 = lTg L a - 48 := (k3m 8).trans d3
                      have e9 : mI g3 m 9 = mI hq10 m 9 := k3m 9
                      have eW : mI g3 (m + 3) k = mI hq10 (m + 3) k := by rw [k3w]
                      have hWr := d7 k (by omega) (by omega)
                      have hsp : spF (lTg L a - 48) (mI hq10 m 9) (mI hq10 (m + 3)) A1 (k).toNat = (A3, 0, 1) := by
                        rcases hmm with z | z
                        · exfalso; omega
                        · rcases z.2.2 with q | q
                          · exact q.2
                          · exfalso; omega
                      refine X.callV (ci := 6) (a := m) (rm := rm_X6_canSpeak) (As := []) (st := []) dX6_talk_109 ck_X6_56 rfl (by decide) k3L.1.1 rfl rfl ⟨Nat.le_of_ble_eq_true rfl, Nat.le_of_ble_eq_true rfl⟩ (Nat.le_of_ble_eq_true rfl) (Nat.le_of_ble_eq_true rfl) (Nat.le_of_ble_eq_true rfl) (pc' := 112) rfl (k_X6_canSpeak (A := A3) k3L.1 k3L.2.1 ok3) (fun q27 hq27 eq27 => ?_) (fun _ _ x1 => x1.elim)
                      obtain ⟨rfl, r112, rfl, hr112⟩ := eq27
                      refine X.istore_n (i := 2) (ls' := [some (rf m), some (vi y3), some (vi r112), some (vi k)]) (hi := rfl) (hd := dX6_talk_112) (by decide) rfl rfl (pc' := 113) rfl ?_
                      refine X.iload_n (i := 2) rfl rfl dX6_talk_113 (pc' := 114) rfl ?_
                      refine X.if_eq (tgt := 139) dX6_talk_114 ⟨by omega, by omega⟩ (by decide) (pc' := 117) rfl (fun c114 => ?_) (fun c114 => ?_)
                      · refine X.iinc (i := 3) (ls' := [some (rf m), some (vi y3), some (vi r112), some (vi (k + 1))]) dX6_talk_139 rfl (by decide) rfl rfl (pc' := 142) rfl ?_
                        refine X.goto (tgt := 96) dX6_talk_142 (by decide) ?_
                        refine ih96 g3 y3 r112 (k + 1) A3 (by omega) ?_
                        have hd1 : spF (lTg L a - 48) (mI hq10 m 9) (mI hq10 (m + 3)) A1 (k + 1).toNat = (A3, 0, 0) := by
                          rw [spF_at k3k.1, hsp]
                          unfold spk
                          rw [if_neg (show ¬ ((1 : Int) = 1 ∧ aW A3 < 200 ∧ aB A3 < 400) by omega)]
                        have hd2 := spF_dead hd1 (mI hq10 m 11 - (k + 1)).toNat
                        rw [show (k + 1).toNat + (mI hq10 m 11 - (k + 1)).toNat = (mI hq10 m 11).toNat by omega] at hd2
                        exact ⟨k3F, k33, k3L, k3m, k3w, k3y, by omega, by omega, Or.inr ⟨by omega, by omega, Or.inr ⟨by omega, hd2⟩⟩⟩
                      · refine X.aload_n (i := 0) rfl rfl dX6_talk_117 (pc' := 118) rfl ?_
                        refine X.aload_n (i := 0) rfl rfl dX6_talk_118 (pc' := 119) rfl ?_
                        refine X.getI (x := mI g3 m 8) fk_X6_105 xcl_6 dX6_talk_119 (by decide) k3L.1.1 rfl (pc' := 122) rfl (fun r28 => ?_)
                        obtain ⟨r28a, r28b⟩ := r28
                        refine X.aload_n (i := 0) rfl rfl dX6_talk_122 (pc' := 123) rfl ?_
                        refine X.getR fk_X6_18 xcl_6 dX6_talk_123 k3L.1.1 k3L.1.2.2.2.2.2.1 (pc' := 126) rfl ?_
                        refine X.iload_n (i := 3) rfl rfl dX6_talk_126 (pc' := 127) rfl ?_
                        refine X.iald (x := mI g3 ((m + 3)) k) dX6_talk_127 k3L.1.2.2.2.2.2.2 (by omega) (by omega) ⟨by omega, by omega⟩ rfl (pc' := 128) rfl (fun r29 => ?_)
                        obtain ⟨r29a, r29b⟩ := r29
                        refine X.aload_n (i := 0) rfl rfl dX6_talk_128 (pc' := 129) rfl ?_
                        refine X.getI (x := mI g3 m 9) fk_X6_95 xcl_6 dX6_talk_129 (by decide) k3L.1.1 rfl (pc' := 132) rfl (fun r30 => ?_)
                        obtain ⟨r30a, r30b⟩ := r30
                        refine X.callV (ci := 6) (a := m) (rm := rm_X6_speaks) (As := [vi (mI g3 m 8), vi (mI g3 ((m + 3)) k), vi (mI g3 m 9)]) (st := []) dX6_talk_132 ck_X6_67 rfl (by decide) k3L.1.1 rfl rfl ⟨Nat.le_of_ble_eq_true rfl, Nat.le_of_ble_eq_true rfl⟩ (Nat.le_of_ble_eq_true rfl) (Nat.le_of_ble_eq_true rfl) (Nat.le_of_ble_eq_true rfl) (pc' := 135) rfl (k_X6_speaks (A := A3) k3L.1 k3L.2.1 ok3 (by omega) (by omega) (by omega) pa3 (by omega) (by omega)) (fun q31 hq31 eq31 => ?_) (fun _ _ x1 => x1.elim)
                        obtain ⟨rfl, hME, hFE⟩ := eq31
                        rw [e8, eW, e9] at hME
                        have hok3 := aAdd_ok (s := lTg L a - 48) (w := mI hq10 (m + 3) k) (m := mI hq10 m 9) ok3 pa3 (by omega) ⟨by omega, by omega⟩ ⟨by omega, by omega⟩ ⟨by omega, by omega⟩
                        have hL4 : ML hq31 m (sA (sSave L) (aEnd (aAdd A3 (lTg L a - 48) (mI hq10 (m + 3) k) (mI hq10 m 9)))) := k3L.now hFE hME (aEnd_ok hok3 (show aB A3 < 400 by omega)) (aEnd_past hok3)
                        have hm4 : mI hq31 m = mI g3 m := hFE.2.1 m (by omega)
                        have hw4 : mI hq31 (m + 3) = mI g3 (m + 3) := hFE.2.1 (m + 3) (by omega)
                        refine X.pop rfl dX6_talk_135 (pc' := 136) rfl ?_
                        refine X.iinc (i := 1) (ls' := [some (rf m), some (vi (y3 + 1)), some (vi r112), some (vi k)]) dX6_talk_136 rfl (by decide) rfl rfl (pc' := 139) rfl ?_
                        refine X.iinc (i := 3) (ls' := [some (rf m), some (vi (y3 + 1)), some (vi r112), some (vi (k + 1))]) dX6_talk_139 rfl (by decide) rfl rfl (pc' := 142) rfl ?_
                        refine X.goto (tgt := 96) dX6_talk_142 (by decide) ?_
                        refine ih96 hq31 (y3 + 1) r112 (k + 1) (aEnd (aAdd A3 (lTg L a - 48) (mI hq10 (m + 3) k) (mI hq10 m 9))) (by omega) ?_
                        have hd1 : spF (lTg L a - 48) (mI hq10 m 9) (mI hq10 (m + 3)) A1 (k + 1).toNat = (aEnd (aAdd A3 (lTg L a - 48) (mI hq10 (m + 3) k) (mI hq10 m 9)), 0, 1) := by
                          rw [spF_at k3k.1, hsp]
                          unfold spk
                          rw [if_pos ⟨rfl, (show aW A3 < 200 by omega), (show aB A3 < 400 by omega)⟩]
                        exact ⟨k3F.tr hFE.1, by rw [hm4]; exact k33, hL4, fun j => by rw [hm4]; exact k3m j, by rw [hw4]; exact k3w, by (show y3 + 1 = aW A3 + 1 - aW (lA L)); omega, by omega, by omega, Or.inr ⟨by omega, by omega, Or.inl ⟨by omega, hd1⟩⟩⟩
              refine L96 _ g2 y l2 0 A2 (Nat.lt_succ_self _) ?_
              exact ⟨jF, j3, jL, jm, jw, by rw [jW]; exact hy, jl, by omega, by rcases jj with z | z; exact Or.inl ⟨z.1, rfl, z.2⟩; exact Or.inr ⟨z.1, by omega, Or.inl ⟨z.2.1, by rw [z.2.2]; rfl⟩⟩⟩
            refine X.if_ne (tgt := 94) dX6_talk_52 ⟨by omega, by omega⟩ (by decide) (pc' := 55) rfl (fun c52 => ?_) (fun c52 => ?_)
            · refine J94 hq10 l A1 ?_
              exact ⟨hFh7, h73, hL7, fun _ => rfl, rfl, rfl, by omega, Or.inr ⟨by omega, by omega, rfl⟩⟩
            · refine X.aload_n (i := 0) rfl rfl dX6_talk_55 (pc' := 56) rfl ?_
              refine X.getR fk_X6_8 xcl_6 dX6_talk_56 hL7.1.1 hL7.1.2.1 (pc' := 59) rfl ?_
              refine X.iconst dX6_talk_59 (pc' := 60) rfl ?_
              refine X.iald (x := aB A1) dX6_talk_60 hL7.1.2.2.1 (by omega) (by omega) ⟨by omega, by omega⟩ mB7 (pc' := 61) rfl (fun r32 => ?_)
              obtain ⟨r32a, r32b⟩ := r32
              refine X.aload_n (i := 0) rfl rfl dX6_talk_61 (pc' := 62) rfl ?_
              refine X.getI (x := mI hq10 m 10) fk_X6_92 xcl_6 dX6_talk_62 (by decide) hL7.1.1 rfl (pc' := 65) rfl (fun r33 => ?_)
              obtain ⟨r33a, r33b⟩ := r33
              refine X.iadd dX6_talk_65 (pc' := 66) rfl ?_
              refine X.sipush (by decide +kernel) dX6_talk_66 (pc' := 69) rfl ?_
              refine X.icmp_gt (tgt := 76) dX6_talk_69 ⟨by omega, by omega⟩ ⟨by omega, by omega⟩ (by decide) (pc' := 72) rfl (fun c69 => ?_) (fun c69 => ?_)
              · refine X.iconst dX6_talk_76 (pc' := 77) rfl ?_
                refine X.istore_n (i := 2) (ls' := [some (rf m), some (vi y), some (vi 0), none]) (hi := rfl) (hd := dX6_talk_77) (by decide) rfl rfl (pc' := 78) rfl ?_
                refine X.aload_n (i := 0) rfl rfl dX6_talk_78 (pc' := 79) rfl ?_
                refine X.iload_n (i := 2) rfl rfl dX6_talk_79 (pc' := 80) rfl ?_
                refine X.if_eq (tgt := 90) dX6_talk_80 ⟨by omega, by omega⟩ (by decide) (pc' := 83) rfl (fun c80 => ?_) (fun c80 => by exfalso; omega)
                refine X.iconst dX6_talk_90 (pc' := 91) rfl ?_
                refine X.callV (ci := 6) (a := m) (rm := rm_X6_passes) (As := [vi 0]) (st := []) dX6_talk_91 ck_X6_71 rfl (by decide) hL7.1.1 rfl rfl ⟨Nat.le_of_ble_eq_true rfl, Nat.le_of_ble_eq_true rfl⟩ (Nat.le_of_ble_eq_true rfl) (Nat.le_of_ble_eq_true rfl) (Nat.le_of_ble_eq_true rfl) (pc' := 94) rfl (k_X6_passes (A := A1) hL7.1 hL7.2.1 okg ⟨by omega, by omega⟩ hpg) (fun q34 hq34 eq34 => ?_) (fun _ _ x1 => x1.elim)
                obtain ⟨rfl, hME, hFE⟩ := eq34
                have hpo := aPast_rest okg hpg (0 : Int).toNat (by omega)
                have hL8 : ML hq34 m (sA (sSave L) (aRest A1 (0 : Int).toNat)) := hL7.now hFE hME hpo.2 hpo.1
                have hm8 : mI hq34 m = mI hq10 m := hFE.2.1 m (by omega)
                have hw8 : mI hq34 (m + 3) = mI hq10 (m + 3) := hFE.2.1 (m + 3) (by omega)
                refine J94 hq34 0 (aRest A1 (0 : Int).toNat) ?_
                have hk := tkF_rest (A := A1) (f := f2) (show a < lTn L by omega) (by rcases hdat with z | z; exact z.1; exfalso; omega) hpe (show mI hq10 m 10 = _ by rcases hdat with z | z; exact z.2.2.1; exfalso; omega)
                rw [hm1.2.2.2] at hk
                rw [if_neg (by omega)] at hk
                exact ⟨hFh7.tr hFE.1, by rw [hm8]; exact h73, hL8, fun j => by rw [hm8], hw8, aW_rest _ _, by omega, Or.inl ⟨by omega, Or.inr ⟨rfl, hk.symm⟩⟩⟩
              · refine X.iconst dX6_talk_72 (pc' := 73) rfl ?_
                refine X.goto (tgt := 77) dX6_talk_73 (by decide) ?_
                refine X.istore_n (i := 2) (ls' := [some (rf m), some (vi y), some (vi 1), none]) (hi := rfl) (hd := dX6_talk_77) (by decide) rfl rfl (pc' := 78) rfl ?_
                refine X.aload_n (i := 0) rfl rfl dX6_talk_78 (pc' := 79) rfl ?_
                refine X.iload_n (i := 2) rfl rfl dX6_talk_79 (pc' := 80) rfl ?_
                refine X.if_eq (tgt := 90) dX6_talk_80 ⟨by omega, by omega⟩ (by decide) (pc' := 83) rfl (fun c80 => by exfalso; omega) (fun c80 => ?_)
                refine X.aload_n (i := 0) rfl rfl dX6_talk_83 (pc' := 84) rfl ?_
                refine X.getI (x := mI hq10 m 10) fk_X6_92 xcl_6 dX6_talk_84 (by decide) hL7.1.1 rfl (pc' := 87) rfl (fun r35 => ?_)
                obtain ⟨r35a, r35b⟩ := r35
                refine X.goto (tgt := 91) dX6_talk_87 (by decide) ?_
                refine X.callV (ci := 6) (a := m) (rm := rm_X6_passes) (As := [vi (mI hq10 m 10)]) (st := []) dX6_talk_91 ck_X6_71 rfl (by decide) hL7.1.1 rfl rfl ⟨Nat.le_of_ble_eq_true rfl, Nat.le_of_ble_eq_true rfl⟩ (Nat.le_of_ble_eq_true rfl) (Nat.le_of_ble_eq_true rfl) (Nat.le_of_ble_eq_true rfl) (pc' := 94) rfl (k_X6_passes (A := A1) hL7.1 hL7.2.1 okg ⟨by omega, by omega⟩ hpg) (fun q36 hq36 eq36 => ?_) (fun _ _ x1 => x1.elim)
                obtain ⟨rfl, hME, hFE⟩ := eq36
                have hpo := aPast_rest okg hpg (mI hq10 m 10).toNat (by omega)
                have hL8 : ML hq36 m (sA (sSave L) (aRest A1 (mI hq10 m 10).toNat)) := hL7.now hFE hME hpo.2 hpo.1
                have hm8 : mI hq36 m = mI hq10 m := hFE.2.1 m (by omega)
                have hw8 : mI hq36 (m + 3) = mI hq10 (m + 3) := hFE.2.1 (m + 3) (by omega)
                refine J94 hq36 1 (aRest A1 (mI hq10 m 10).toNat) ?_
                have hk := tkF_rest (A := A1) (f := f2) (show a < lTn L by omega) (by rcases hdat with z | z; exact z.1; exfalso; omega) hpe (show mI hq10 m 10 = _ by rcases hdat with z | z; exact z.2.2.1; exfalso; omega)
                rw [hm1.2.2.2] at hk
                rw [if_pos (by omega)] at hk
                exact ⟨hFh7.tr hFE.1, by rw [hm8]; exact h73, hL8, fun j => by rw [hm8], hw8, aW_rest _ _, by omega, Or.inl ⟨by omega, Or.inl ⟨rfl, hk.symm⟩⟩⟩
      refine L40 _ h6 0 1 0 (lA L) 61 (Nat.lt_succ_self _) ?_
      exact ⟨hF6, by rw [wh6, if_neg (by omega)]; exact hM30, hL6, by rw [wh6, if_pos ⟨rfl, rfl⟩], by rw [wh6, if_neg (by omega)]; exact t57, by omega, by omega, Or.inl ⟨rfl, by omega, rfl, by omega, rfl⟩⟩
    · refine X.iconst dX6_talk_25 (pc' := 26) rfl ?_
      refine X.iret dX6_talk_26 (Or.inl rfl) (Nat.le_of_ble_eq_true rfl) (Nat.le_of_ble_eq_true rfl) ?_
      subst hPR
      refine ⟨hFq, _, rfl, Or.inr ⟨?_, rfl, hL2⟩⟩
      have hna : ¬ acc (rn (lTg L) (lTn L)) := by
        rcases hd3 with z | z
        · exfalso; omega
        · exact z.2.no (by omega)
      refine Or.inl ⟨hna, ?_⟩
      rw [hM3]; split <;> (try split) <;> (try split) <;> omega
  · refine X.iconst dX6_talk_12 (pc' := 13) rfl ?_
    refine X.goto (tgt := 17) dX6_talk_13 (by decide) ?_
    refine X.iconst dX6_talk_17 (pc' := 18) rfl ?_
    refine X.iconst dX6_talk_18 (pc' := 19) rfl ?_
    refine X.callV (ci := 6) (a := m) (rm := rm_X6_goes) (As := [vi 1, vi 1, vi 1]) (st := []) dX6_talk_19 ck_X6_60 rfl (by decide) hL3.1.1 rfl rfl ⟨Nat.le_of_ble_eq_true rfl, Nat.le_of_ble_eq_true rfl⟩ (Nat.le_of_ble_eq_true rfl) (Nat.le_of_ble_eq_true rfl) (Nat.le_of_ble_eq_true rfl) (pc' := 22) rfl (k_X6_goes hL3.1 (by omega) (by omega) (by omega)) (fun q37 hq37 eq37 => ?_) (fun _ _ x1 => x1.elim)
    obtain ⟨hG4, r38, rfl, hr38⟩ := eq37
    have hM3 : mI hq37 m 3 = (if (1 : Int) = 0 then 1 else if (1 : Int) = 0 then 2 else if (1 : Int) = 0 then 3 else 0) := by rw [hG4, mI_sI, if_pos ⟨rfl, rfl⟩]
    have hF4 : FM hq1 hq37 m := by rw [hG4]; exact FM.rf.w ⟨by omega, by omega⟩
    have hFq : FM h hq37 m := hF3.1.tr hF4
    have hL2 : ML hq37 m L := hL3.th hF4 (by rw [hG4]; funext j; rw [mI_sI, if_neg (by omega)]) (by rw [hG4]; funext j; rw [mI_sI, if_neg (by omega)]) (fun j z => by rw [hG4, mI_sI, if_neg (by omega)])
    refine X.if_ne (tgt := 27) dX6_talk_22 ⟨by omega, by omega⟩ (by decide) (pc' := 25) rfl (fun c22 => ?_) (fun c22 => ?_)
    · refine X.aload_n (i := 0) rfl rfl dX6_talk_27 (pc' := 28) rfl ?_
      refine X.callV (ci := 6) (a := m) (rm := rm_X6_saves) (As := []) (st := []) dX6_talk_28 ck_X6_64 rfl (by decide) hL2.1.1 rfl rfl ⟨Nat.le_of_ble_eq_true rfl, Nat.le_of_ble_eq_true rfl⟩ (Nat.le_of_ble_eq_true rfl) (Nat.le_of_ble_eq_true rfl) (Nat.le_of_ble_eq_true rfl) (pc' := 31) rfl (k_X6_saves hL2) (fun q39 hq39 eq39 => ?_) (fun _ _ x1 => x1.elim)
      obtain ⟨rfl, hL5, hG5⟩ := eq39
      have hM30 : mI hq39 m 3 = 0 := by rw [hG5.2.2.1 3 (by omega), hM3]; split <;> (try split) <;> (try split) <;> omega
      have hC : acc (rn (lTg L) (lTn L)) := by
        rcases hd3 with z | z
        · exact z.2.2
        · exfalso; omega
      have hFq5 : FM h hq39 m := hFq.tr hG5.1
      have t57 : mI hq39 m 7 = 0 := by rw [hG5.2.2.1 7 (by omega), hG4, mI_sI, if_neg (by omega), t37]; omega
      refine X.aload_n (i := 0) rfl rfl dX6_talk_31 (pc' := 32) rfl ?_
      refine X.iconst dX6_talk_32 (pc' := 33) rfl ?_
      refine X.putI fk_X6_82 xcl_6 ⟨_, rfl, Or.inl rfl⟩ dX6_talk_33 (Or.inl rfl) ⟨by omega, by omega⟩ hL5.1.1 (pc' := 36) rfl ?_
      refine X.genH (fun h40 hh40 => ?_)
      have wh40 : ∀ (w0 : Nat) (w1 : Int), mI h40 w0 w1 = if w0 = m ∧ w1 = 6 then 0 else mI hq39 w0 w1 := fun _ _ => by rw [hh40]; rfl
      have S41 : MoS h40 m := by rw [hh40]; exact hL5.1
      have hF6 : FM h h40 m := by rw [hh40]; exact hFq5.w ⟨by omega, by omega⟩
      have hL6 : ML h40 m (sSave L) := hL5.th (by rw [hh40]; exact FM.rf.w ⟨by omega, by omega⟩) (by rw [hh40]; funext j; rw [mI_sI, if_neg (by omega)]) (by rw [hh40]; funext j; rw [mI_sI, if_neg (by omega)]) (fun j z => by rw [hh40, mI_sI, if_neg (by omega)])
      refine X.iconst dX6_talk_36 (pc' := 37) rfl ?_
      refine X.istore_n (i := 1) (ls' := [some (rf m), some (vi 0), none, none]) (hi := rfl) (hd := dX6_talk_37) (by decide) rfl rfl (pc' := 38) rfl ?_
      refine X.iconst dX6_talk_38 (pc' := 39) rfl ?_
      refine X.istore_n (i := 2) (ls' := [some (rf m), some (vi 0), some (vi 1), none]) (hi := rfl) (hd := dX6_talk_39) (by decide) rfl rfl (pc' := 40) rfl ?_
      have L40 : ∀ (n40 : Nat) (g : xM) (y : Int) (l : Int) (a : Int) (A1 : aS) (f : Nat), (l.toNat * 100 + (100 - a).toNat) < n40 → (FM h g m ∧ mI g m 3 = 0 ∧ ML g m (sA (sSave L) A1) ∧ mI g m 6 = a ∧ mI g m 7 = 0 ∧ y = aW A1 - aW (lA L) ∧ (0 ≤ a ∧ a ≤ 61) ∧ ((l = 1 ∧ a ≤ lTn L ∧ rn (lTg L) a = 0 ∧ lTn L + 1 - a ≤ f ∧ tkF (lTg L) (lTn L) f a A1 = tk L) ∨ (l = 0 ∧ A1 = tk L))) → X Ω RX6 cX6_talk 4 (some .int) false rm_X6_talk PR xNo 0 0 40 [some (rf m), some (vi y), some (vi l), none] [] g := by
        intro n40
        induction n40 with
        | zero => intro g y l a A1 f hm _; exfalso; omega
        | succ n40 ih40 =>
          intro g y l a A1 f hm40 hinv
          obtain ⟨hFg, hg3, hLg, hg6, hg7, hy, har, hm⟩ := hinv
          have hgO := hLg.2.2.2.2.2.2.2.2
          have okg : aOK A1 := hgO.2.1.1
          have hpg : aPast A1 := hgO.1.1
          have hgW := okg.2.1
          have hgB := okg.1
          have hl01 : l = 0 ∨ l = 1 := by omega
          have hgT : mI g m 5 = lTn L := hLg.2.2.2.2.2.2.1
          refine X.iload_n (i := 2) rfl rfl dX6_talk_40 (pc' := 41) rfl ?_
          refine X.if_eq (tgt := 179) dX6_talk_41 ⟨by omega, by omega⟩ (by decide) (pc' := 44) rfl (fun c41 => ?_) (fun c41 => ?_)
          · refine X.aload_n (i := 0) rfl rfl dX6_talk_179 (pc' := 180) rfl ?_
            refine X.iconst dX6_talk_180 (pc' := 181) rfl ?_
            refine X.putI fk_X6_75 xcl_6 ⟨_, rfl, Or.inl rfl⟩ dX6_talk_181 (Or.inl rfl) ⟨by omega, by omega⟩ hLg.1.1 (pc' := 184) rfl ?_
            refine X.genH (fun h42 hh42 => ?_)
            have wh42 : ∀ (w0 : Nat) (w1 : Int), mI h42 w0 w1 = if w0 = m ∧ w1 = 5 then 0 else mI g w0 w1 := fun _ _ => by rw [hh42]; rfl
            have S43 : MoS h42 m := by rw [hh42]; exact hLg.1
            refine X.iload_n (i := 1) rfl rfl dX6_talk_184 (pc' := 185) rfl ?_
            refine X.iret dX6_talk_185 (Or.inl rfl) (Nat.le_of_ble_eq_true rfl) (Nat.le_of_ble_eq_true rfl) ?_
            subst hPR
            have hA1 : A1 = tk L := by
              rcases hm with z | z
              · exfalso; omega
              · exact z.2
            have hFx : FM g h42 m := by rw [hh42]; exact FM.rf.w ⟨by omega, by omega⟩
            have hL9 := hLg.text (g := h42) (n := 0) (G := lTg L) hFx (funext fun j => by rw [wh42, if_neg (by omega)]) (fun j z => by rw [wh42, if_neg (by omega)]) (by rw [wh42, if_pos ⟨rfl, rfl⟩]) ⟨by decide, by decide⟩ (fun j z1 z2 => by omega)
            rw [hA1] at hL9 hy
            exact ⟨hFg.tr hFx, _, rfl, Or.inl ⟨⟨hC, trivial, trivial⟩, by rw [wh42, if_neg (by omega)]; exact hg3, hy, hL9⟩⟩
          · refine X.aload_n (i := 0) rfl rfl dX6_talk_44 (pc' := 45) rfl ?_
            refine X.callV (ci := 6) (a := m) (rm := rm_X6_reads) (As := []) (st := []) dX6_talk_45 ck_X6_111 rfl (by decide) hLg.1.1 rfl rfl ⟨Nat.le_of_ble_eq_true rfl, Nat.le_of_ble_eq_true rfl⟩ (Nat.le_of_ble_eq_true rfl) (Nat.le_of_ble_eq_true rfl) (Nat.le_of_ble_eq_true rfl) (pc' := 48) rfl (k_X6_reads (n := lTn L) (G := lTg L) hLg.1 ⟨⟨hgT, hg6, hg7⟩, Or.inl rfl, ⟨by omega, by omega, by omega⟩, fun j z1 z2 => ⟨hLg.2.2.2.2.2.2.2.1 j z1 z2, hgO.2.2.2.2.2 j z1 z2⟩⟩ (by omega)) (fun q44 hq44 eq44 => ?_) (fun _ _ x1 => x1.elim)
            obtain ⟨rfl, hF7, e, hRd⟩ := eq44
            have hm1 : a ≤ lTn L ∧ rn (lTg L) a = 0 ∧ lTn L + 1 - a ≤ f ∧ tkF (lTg L) (lTn L) f a A1 = tk L := by
              rcases hm with z | z
              · exact z.2
              · exfalso; omega
            obtain ⟨hT7, hae, hac7, hen, hno, hdat⟩ : RdG hq44 m (lTn L) (lTg L) a e := by
              rcases hRd with z | z
              · exact absurd hC (z.2.no z.1.2.2.1.1)
              · exact z
            have hL7 : ML hq44 m (sA (sSave L) A1) := hLg.ft hF7
            have h7r := hT7.2.2.1
            have h73 : mI hq44 m 3 = 0 := by rw [hF7.2.2.2 3 (by omega)]; exact hg3
            have hFh7 : FM h hq44 m := hFg.tr hF7.1
            have hen2 : e = lTn L ∨ lTg L e = 59 := by
              by_cases z : e = lTn L
              · exact Or.inl z
              · by_cases z2 : lTg L e = 59
                · exact Or.inr z2
                · exact absurd (hen (by omega) z2) (rn_ok hC (by omega) (by omega))
            have hpe : e = pe (lTg L) (lTn L) a := pe_of har.1 (by omega) h7r.2.1 hno hen2
            have hnx : e < lTn L → rn (lTg L) (e + 1) = 0 := fun z => by rw [hpe] at z ⊢; exact (pe_acc hC har.1 hm1.1).2 z
            obtain ⟨f2, rfl⟩ : ∃ f2, f = f2 + 1 := ⟨f - 1, by omega⟩
            have hqq : (mI hq44 m 11 = 0 ∧ 1 ≤ mI hq44 m 10 ∧ mI hq44 m 10 ≤ 50) ∨ (1 ≤ mI hq44 m 11 ∧ mI hq44 m 11 ≤ 60) := by
              rcases hdat with z | z
              · exact Or.inl ⟨z.2.1, z.2.2.2.1, z.2.2.2.2⟩
              · exact Or.inr z.2.1
            have mB7 : mI hq44 (m + 1) 3 = aB A1 := mI_at hL7.2.1.2.1 (by omega)
            refine X.aload_n (i := 0) rfl rfl dX6_talk_48 (pc' := 49) rfl ?_
            refine X.getI (x := mI hq44 m 11) fk_X6_89 xcl_6 dX6_talk_49 (by decide) hL7.1.1 rfl (pc' := 52) rfl (fun r45 => ?_)
            obtain ⟨r45a, r45b⟩ := r45
            have J94 : ∀ (g2 : xM) (l2 : Int) (A2 : aS), (FM h g2 m ∧ mI g2 m 3 = 0 ∧ ML g2 m (sA (sSave L) A2) ∧ (∀ j, mI g2 m j = mI hq44 m j) ∧ mI g2 (m + 3) = mI hq44 (m + 3) ∧ aW A2 = aW A1 ∧ (l2 = 0 ∨ l2 = 1) ∧ ((mI hq44 m 11 = 0 ∧ ((l2 = 1 ∧ tkF (lTg L) (lTn L) f2 (e + 1) A2 = tk L) ∨ (l2 = 0 ∧ A2 = tk L))) ∨ (1 ≤ mI hq44 m 11 ∧ l2 = 1 ∧ A2 = A1))) → X Ω RX6 cX6_talk 4 (some .int) false rm_X6_talk PR xNo 0 0 94 [some (rf m), some (vi y), some (vi l2), none] [] g2 := by
              intro g2 l2 A2 hinv
              obtain ⟨jF, j3, jL, jm, jw, jW, jl, jj⟩ := hinv
              refine X.iconst dX6_talk_94 (pc' := 95) rfl ?_
              refine X.istore_n (i := 3) (ls' := [some (rf m), some (vi y), some (vi l2), some (vi 0)]) (hi := rfl) (hd := dX6_talk_95) (by decide) rfl rfl (pc' := 96) rfl ?_
              have L96 : ∀ (n96 : Nat) (g3 : xM) (y3 : Int) (l3 : Int) (k : Int) (A3 : aS), (mI hq44 m 11 - k).toNat < n96 → (FM h g3 m ∧ mI g3 m 3 = 0 ∧ ML g3 m (sA (sSave L) A3) ∧ (∀ j, mI g3 m j = mI hq44 m j) ∧ mI g3 (m + 3) = mI hq44 (m + 3) ∧ y3 = aW A3 - aW (lA L) ∧ (l3 = 0 ∨ l3 = 1) ∧ (0 ≤ k ∧ k ≤ 60) ∧ ((mI hq44 m 11 = 0 ∧ k = 0 ∧ ((l3 = 1 ∧ tkF (lTg L) (lTn L) f2 (e + 1) A3 = tk L) ∨ (l3 = 0 ∧ A3 = tk L))) ∨ (1 ≤ mI hq44 m 11 ∧ k ≤ mI hq44 m 11 ∧ ((l3 = 1 ∧ spF (lTg L a - 48) (mI hq44 m 9) (mI hq44 (m + 3)) A1 (k).toNat = (A3, 0, 1)) ∨ (l3 = 0 ∧ spF (lTg L a - 48) (mI hq44 m 9) (mI hq44 (m + 3)) A1 (mI hq44 m 11).toNat = (A3, 0, 0)))))) → X Ω RX6 cX6_talk 4 (some .int) false rm_X6_talk PR xNo 0 0 96 [some (rf m), some (vi y3), some (vi l3), some (vi k)] [] g3 := by
                intro n96
                induction n96 with
                | zero => intro g3 y3 l3 k A3 hm _; exfalso; omega
                | succ n96 ih96 =>
                  intro g3 y3 l3 k A3 hm96 hinv
                  obtain ⟨k3F, k33, k3L, k3m, k3w, k3y, k3l, k3k, hmm⟩ := hinv
                  have k3O := k3L.2.2.2.2.2.2.2.2
                  have ok3 : aOK A3 := k3O.2.1.1
                  have pa3 : aPast A3 := k3O.1.1
                  have ok3W := ok3.2.1
                  have ok3B := ok3.1
                  have m11 : mI g3 m 11 = mI hq44 m 11 := k3m 11
                  have m6 : mI g3 m 6 = e := (k3m 6).trans hT7.1.2.1
                  have m7 : mI g3 m 7 = 0 := (k3m 7).trans hT7.1.2.2
                  have m5 : mI g3 m 5 = lTn L := (k3m 5).trans hT7.1.1
                  have hk1r : 0 ≤ mI hq44 m 11 ∧ mI hq44 m 11 ≤ 60 := by omega
                  refine X.iload_n (i := 3) rfl rfl dX6_talk_96 (pc' := 97) rfl ?_
                  refine X.aload_n (i := 0) rfl rfl dX6_talk_97 (pc' := 98) rfl ?_
                  refine X.getI (x := mI g3 m 11) fk_X6_89 xcl_6 dX6_talk_98 (by decide) k3L.1.1 rfl (pc' := 101) rfl (fun r46 => ?_)
                  obtain ⟨r46a, r46b⟩ := r46
                  refine X.icmp_ge (tgt := 145) dX6_talk_101 ⟨by omega, by omega⟩ ⟨by omega, by omega⟩ (by decide) (pc' := 104) rfl (fun c101 => ?_) (fun c101 => ?_)
                  · have hfin : (l3 = 1 ∧ tkF (lTg L) (lTn L) f2 (e + 1) A3 = tk L) ∨ (l3 = 0 ∧ A3 = tk L) := by
                      rcases hmm with ⟨z1, z2, z3⟩ | ⟨z1, z2, z3⟩
                      · exact z3
                      · obtain ⟨d1, d2, d3, d4, d5, d6, d7, d8⟩ : (lTg L a ≠ 46 ∧ (1 ≤ mI hq44 m 11 ∧ mI hq44 m 11 ≤ 60) ∧ mI hq44 m 8 = lTg L a - 48 ∧ (48 ≤ lTg L a ∧ lTg L a ≤ 53) ∧ mI hq44 m 9 = mkOf (lTg L) a e ∧ (-1 ≤ mkOf (lTg L) a e ∧ mkOf (lTg L) a e ≤ 9) ∧ (∀ j, 0 ≤ j → j < mI hq44 m 11 → 1 ≤ mI hq44 (m + 3) j ∧ mI hq44 (m + 3) j ≤ 99) ∧ ∀ A u, scE (lTg L) (lTg L a - 48) u (a + 2) A (weOf (lTg L) a e) = spF (lTg L a - 48) u (mI hq44 (m + 3)) A (mI hq44 m 11).toNat) := by
                          rcases hdat with z | z
                          · exfalso; omega
                          · exact z
                        have hsc := d8 A1 (mI hq44 m 9)
                        rcases z3 with ⟨y1, y2⟩ | ⟨y1, y2⟩
                        · have ek : k = mI hq44 m 11 := by omega
                          rw [← ek, y2, d5] at hsc
                          have hk := tkF_say (A := A1) (f := f2) (show a < lTn L by omega) d1 hpe hsc.symm
                          rw [if_pos rfl] at hk
                          exact Or.inl ⟨y1, hk.symm.trans hm1.2.2.2⟩
                        · rw [y2, d5] at hsc
                          have hk := tkF_say (A := A1) (f := f2) (show a < lTn L by omega) d1 hpe hsc.symm
                          rw [if_neg (show ¬ (0 : Int) = 1 by decide)] at hk
                          exact Or.inr ⟨y1, hk.symm.trans hm1.2.2.2⟩
                    refine X.iload_n (i := 2) rfl rfl dX6_talk_145 (pc' := 146) rfl ?_
                    refine X.if_eq (tgt := 164) dX6_talk_146 ⟨by omega, by omega⟩ (by decide) (pc' := 149) rfl (fun c146 => ?_) (fun c146 => ?_)
                    · refine X.iconst dX6_talk_164 (pc' := 165) rfl ?_
                      refine X.istore_n (i := 2) (ls' := [some (rf m), some (vi y3), some (vi 0), some (vi k)]) (hi := rfl) (hd := dX6_talk_165) (by decide) rfl rfl (pc' := 166) rfl ?_
                      refine X.aload_n (i := 0) rfl rfl dX6_talk_166 (pc' := 167) rfl ?_
                      refine X.dup rfl dX6_talk_167 (pc' := 168) rfl ?_
                      refine X.getI (x := mI g3 m 6) fk_X6_82 xcl_6 dX6_talk_168 (by decide) k3L.1.1 rfl (pc' := 171) rfl (fun r47 => ?_)
                      obtain ⟨r47a, r47b⟩ := r47
                      refine X.iconst dX6_talk_171 (pc' := 172) rfl ?_
                      refine X.iadd dX6_talk_172 (pc' := 173) rfl ?_
                      refine X.putI fk_X6_82 xcl_6 ⟨_, rfl, Or.inl rfl⟩ dX6_talk_173 (Or.inl rfl) ⟨by omega, by omega⟩ k3L.1.1 (pc' := 176) rfl ?_
                      refine X.genH (fun h48 hh48 => ?_)
                      have wh48 : ∀ (w0 : Nat) (w1 : Int), mI h48 w0 w1 = if w0 = m ∧ w1 = 6 then (mI g3 m 6) + 1 else mI g3 w0 w1 := fun _ _ => by rw [hh48]; rfl
                      have S49 : MoS h48 m := by rw [hh48]; exact k3L.1
                      refine X.goto (tgt := 40) dX6_talk_176 (by decide) ?_
                      refine X.mask (bs := [true, true, true, false]) (ls' := [some (rf m), some (vi y3), some (vi 0), none]) rfl ?_
                      refine ih40 h48 y3 0 (e + 1) A3 f2 (by omega) ?_
                      have hF9 : FM h h48 m := by rw [hh48]; exact k3F.w ⟨by omega, by omega⟩
                      have hL9 : ML h48 m (sA (sSave L) A3) := k3L.th (by rw [hh48]; exact FM.rf.w ⟨by omega, by omega⟩) (by rw [hh48]; funext j; rw [mI_sI, if_neg (by omega)]) (by rw [hh48]; funext j; rw [mI_sI, if_neg (by omega)]) (fun j z => by rw [hh48, mI_sI, if_neg (by omega)])
                      refine ⟨hF9, by rw [wh48, if_neg (by omega)]; exact k33, hL9, by rw [wh48, if_pos ⟨rfl, rfl⟩, m6], by rw [wh48, if_neg (by omega)]; exact m7, k3y, by omega, ?_⟩
                      rcases hfin with z | z
                      · first
                        | (exfalso; omega)
                        | exact Or.inr ⟨rfl, by rw [← z.2, tkF_end (by omega)]⟩
                      · exact Or.inr ⟨rfl, z.2⟩
                    · refine X.aload_n (i := 0) rfl rfl dX6_talk_149 (pc' := 150) rfl ?_
                      refine X.getI (x := mI g3 m 6) fk_X6_82 xcl_6 dX6_talk_150 (by decide) k3L.1.1 rfl (pc' := 153) rfl (fun r50 => ?_)
                      obtain ⟨r50a, r50b⟩ := r50
                      refine X.aload_n (i := 0) rfl rfl dX6_talk_153 (pc' := 154) rfl ?_
                      refine X.getI (x := mI g3 m 5) fk_X6_75 xcl_6 dX6_talk_154 (by decide) k3L.1.1 rfl (pc' := 157) rfl (fun r51 => ?_)
                      obtain ⟨r51a, r51b⟩ := r51
                      refine X.icmp_ge (tgt := 164) dX6_talk_157 ⟨by omega, by omega⟩ ⟨by omega, by omega⟩ (by decide) (pc' := 160) rfl (fun c157 => ?_) (fun c157 => ?_)
                      · refine X.iconst dX6_talk_164 (pc' := 165) rfl ?_
                        refine X.istore_n (i := 2) (ls' := [some (rf m), some (vi y3), some (vi 0), some (vi k)]) (hi := rfl) (hd := dX6_talk_165) (by decide) rfl rfl (pc' := 166) rfl ?_
                        refine X.aload_n (i := 0) rfl rfl dX6_talk_166 (pc' := 167) rfl ?_
                        refine X.dup rfl dX6_talk_167 (pc' := 168) rfl ?_
                        refine X.getI (x := mI g3 m 6) fk_X6_82 xcl_6 dX6_talk_168 (by decide) k3L.1.1 rfl (pc' := 171) rfl (fun r52 => ?_)
                        obtain ⟨r52a, r52b⟩ := r52
                        refine X.iconst dX6_talk_171 (pc' := 172) rfl ?_
                        refine X.iadd dX6_talk_172 (pc' := 173) rfl ?_
                        refine X.putI fk_X6_82 xcl_6 ⟨_, rfl, Or.inl rfl⟩ dX6_talk_173 (Or.inl rfl) ⟨by omega, by omega⟩ k3L.1.1 (pc' := 176) rfl ?_
                        refine X.genH (fun h53 hh53 => ?_)
                        have wh53 : ∀ (w0 : Nat) (w1 : Int), mI h53 w0 w1 = if w0 = m ∧ w1 = 6 then (mI g3 m 6) + 1 else mI g3 w0 w1 := fun _ _ => by rw [hh53]; rfl
                        have S54 : MoS h53 m := by rw [hh53]; exact k3L.1
                        refine X.goto (tgt := 40) dX6_talk_176 (by decide) ?_
                        refine X.mask (bs := [true, true, true, false]) (ls' := [some (rf m), some (vi y3), some (vi 0), none]) rfl ?_
                        refine ih40 h53 y3 0 (e + 1) A3 f2 (by omega) ?_
                        have hF9 : FM h h53 m := by rw [hh53]; exact k3F.w ⟨by omega, by omega⟩
                        have hL9 : ML h53 m (sA (sSave L) A3) := k3L.th (by rw [hh53]; exact FM.rf.w ⟨by omega, by omega⟩) (by rw [hh53]; funext j; rw [mI_sI, if_neg (by omega)]) (by rw [hh53]; funext j; rw [mI_sI, if_neg (by omega)]) (fun j z => by rw [hh53, mI_sI, if_neg (by omega)])
                        refine ⟨hF9, by rw [wh53, if_neg (by omega)]; exact k33, hL9, by rw [wh53, if_pos ⟨rfl, rfl⟩, m6], by rw [wh53, if_neg (by omega)]; exact m7, k3y, by omega, ?_⟩
                        rcases hfin with z | z
                        · first
                          | (exfalso; omega)
                          | exact Or.inr ⟨rfl, by rw [← z.2, tkF_end (by omega)]⟩
                        · exact Or.inr ⟨rfl, z.2⟩
                      · refine X.iconst dX6_talk_160 (pc' := 161) rfl ?_
                        refine X.goto (tgt := 165) dX6_talk_161 (by decide) ?_
                        refine X.istore_n (i := 2) (ls' := [some (rf m), some (vi y3), some (vi 1), some (vi k)]) (hi := rfl) (hd := dX6_talk_165) (by decide) rfl rfl (pc' := 166) rfl ?_
                        refine X.aload_n (i := 0) rfl rfl dX6_talk_166 (pc' := 167) rfl ?_
                        refine X.dup rfl dX6_talk_167 (pc' := 168) rfl ?_
                        refine X.getI (x := mI g3 m 6) fk_X6_82 xcl_6 dX6_talk_168 (by decide) k3L.1.1 rfl (pc' := 171) rfl (fun r55 => ?_)
                        obtain ⟨r55a, r55b⟩ := r55
                        refine X.iconst dX6_talk_171 (pc' := 172) rfl ?_
                        refine X.iadd dX6_talk_172 (pc' := 173) rfl ?_
                        refine X.putI fk_X6_82 xcl_6 ⟨_, rfl, Or.inl rfl⟩ dX6_talk_173 (Or.inl rfl) ⟨by omega, by omega⟩ k3L.1.1 (pc' := 176) rfl ?_
                        refine X.genH (fun h56 hh56 => ?_)
                        have wh56 : ∀ (w0 : Nat) (w1 : Int), mI h56 w0 w1 = if w0 = m ∧ w1 = 6 then (mI g3 m 6) + 1 else mI g3 w0 w1 := fun _ _ => by rw [hh56]; rfl
                        have S57 : MoS h56 m := by rw [hh56]; exact k3L.1
                        refine X.goto (tgt := 40) dX6_talk_176 (by decide) ?_
                        refine X.mask (bs := [true, true, true, false]) (ls' := [some (rf m), some (vi y3), some (vi 1), none]) rfl ?_
                        refine ih40 h56 y3 1 (e + 1) A3 f2 (by omega) ?_
                        have hF9 : FM h h56 m := by rw [hh56]; exact k3F.w ⟨by omega, by omega⟩
                        have hL9 : ML h56 m (sA (sSave L) A3) := k3L.th (by rw [hh56]; exact FM.rf.w ⟨by omega, by omega⟩) (by rw [hh56]; funext j; rw [mI_sI, if_neg (by omega)]) (by rw [hh56]; funext j; rw [mI_sI, if_neg (by omega)]) (fun j z => by rw [hh56, mI_sI, if_neg (by omega)])
                        refine ⟨hF9, by rw [wh56, if_neg (by omega)]; exact k33, hL9, by rw [wh56, if_pos ⟨rfl, rfl⟩, m6], by rw [wh56, if_neg (by omega)]; exact m7, k3y, by omega, ?_⟩
                        rcases hfin with z | z
                        · exact Or.inl ⟨rfl, by omega, hnx (by omega), by omega, z.2⟩
                        · exfalso; omega
                  · refine X.iload_n (i := 2) rfl rfl dX6_talk_104 (pc' := 105) rfl ?_
                    refine X.if_eq (tgt := 145) dX6_talk_105 ⟨by omega, by omega⟩ (by decide) (pc' := 108) rfl (fun c105 => ?_) (fun c105 => ?_)
                    · have hfin : (l3 = 1 ∧ tkF (lTg L) (lTn L) f2 (e + 1) A3 = tk L) ∨ (l3 = 0 ∧ A3 = tk L) := by
                        rcases hmm with ⟨z1, z2, z3⟩ | ⟨z1, z2, z3⟩
                        · exact z3
                        · obtain ⟨d1, d2, d3, d4, d5, d6, d7, d8⟩ : (lTg L a ≠ 46 ∧ (1 ≤ mI hq44 m 11 ∧ mI hq44 m 11 ≤ 60) ∧ mI hq44 m 8 = lTg L a - 48 ∧ (48 ≤ lTg L a ∧ lTg L a ≤ 53) ∧ mI hq44 m 9 = mkOf (lTg L) a e ∧ (-1 ≤ mkOf (lTg L) a e ∧ mkOf (lTg L) a e ≤ 9) ∧ (∀ j, 0 ≤ j → j < mI hq44 m 11 → 1 ≤ mI hq44 (m + 3) j ∧ mI hq44 (m + 3) j ≤ 99) ∧ ∀ A u, scE (lTg L) (lTg L a - 48) u (a + 2) A (weOf (lTg L) a e) = spF (lTg L a - 48) u (mI hq44 (m + 3)) A (mI hq44 m 11).toNat) := by
                            rcases hdat with z | z
                            · exfalso; omega
                            · exact z
                          have hsc := d8 A1 (mI hq44 m 9)
                          rcases z3 with ⟨y1, y2⟩ | ⟨y1, y2⟩
                          · have ek : k = mI hq44 m 11 := by omega
                            rw [← ek, y2, d5] at hsc
                            have hk := tkF_say (A := A1) (f := f2) (show a < lTn L by omega) d1 hpe hsc.symm
                            rw [if_pos rfl] at hk
                            exact Or.inl ⟨y1, hk.symm.trans hm1.2.2.2⟩
                          · rw [y2, d5] at hsc
                            have hk := tkF_say (A := A1) (f := f2) (show a < lTn L by omega) d1 hpe hsc.symm
                            rw [if_neg (show ¬ (0 : Int) = 1 by decide)] at hk
                            exact Or.inr ⟨y1, hk.symm.trans hm1.2.2.2⟩
                      refine X.iload_n (i := 2) rfl rfl dX6_talk_145 (pc' := 146) rfl ?_
                      refine X.if_eq (tgt := 164) dX6_talk_146 ⟨by omega, by omega⟩ (by decide) (pc' := 149) rfl (fun c146 => ?_) (fun c146 => by exfalso; omega)
                      refine X.iconst dX6_talk_164 (pc' := 165) rfl ?_
                      refine X.istore_n (i := 2) (ls' := [some (rf m), some (vi y3), some (vi 0), some (vi k)]) (hi := rfl) (hd := dX6_talk_165) (by decide) rfl rfl (pc' := 166) rfl ?_
                      refine X.aload_n (i := 0) rfl rfl dX6_talk_166 (pc' := 167) rfl ?_
                      refine X.dup rfl dX6_talk_167 (pc' := 168) rfl ?_
                      refine X.getI (x := mI g3 m 6) fk_X6_82 xcl_6 dX6_talk_168 (by decide) k3L.1.1 rfl (pc' := 171) rfl (fun r58 => ?_)
                      obtain ⟨r58a, r58b⟩ := r58
                      refine X.iconst dX6_talk_171 (pc' := 172) rfl ?_
                      refine X.iadd dX6_talk_172 (pc' := 173) rfl ?_
                      refine X.putI fk_X6_82 xcl_6 ⟨_, rfl, Or.inl rfl⟩ dX6_talk_173 (Or.inl rfl) ⟨by omega, by omega⟩ k3L.1.1 (pc' := 176) rfl ?_
                      refine X.genH (fun h59 hh59 => ?_)
                      have wh59 : ∀ (w0 : Nat) (w1 : Int), mI h59 w0 w1 = if w0 = m ∧ w1 = 6 then (mI g3 m 6) + 1 else mI g3 w0 w1 := fun _ _ => by rw [hh59]; rfl
                      have S60 : MoS h59 m := by rw [hh59]; exact k3L.1
                      refine X.goto (tgt := 40) dX6_talk_176 (by decide) ?_
                      refine X.mask (bs := [true, true, true, false]) (ls' := [some (rf m), some (vi y3), some (vi 0), none]) rfl ?_
                      refine ih40 h59 y3 0 (e + 1) A3 f2 (by omega) ?_
                      have hF9 : FM h h59 m := by rw [hh59]; exact k3F.w ⟨by omega, by omega⟩
                      have hL9 : ML h59 m (sA (sSave L) A3) := k3L.th (by rw [hh59]; exact FM.rf.w ⟨by omega, by omega⟩) (by rw [hh59]; funext j; rw [mI_sI, if_neg (by omega)]) (by rw [hh59]; funext j; rw [mI_sI, if_neg (by omega)]) (fun j z => by rw [hh59, mI_sI, if_neg (by omega)])
                      refine ⟨hF9, by rw [wh59, if_neg (by omega)]; exact k33, hL9, by rw [wh59, if_pos ⟨rfl, rfl⟩, m6], by rw [wh59, if_neg (by omega)]; exact m7, k3y, by omega, ?_⟩
                      rcases hfin with z | z
                      · first
                        | (exfalso; omega)
                        | exact Or.inr ⟨rfl, by rw [← z.2, tkF_end (by omega)]⟩
                      · exact Or.inr ⟨rfl, z.2⟩
                    · refine X.aload_n (i := 0) rfl rfl dX6_talk_108 (pc' := 109) rfl ?_
                      obtain ⟨d1, d2, d3, d4, d5, d6, d7, d8⟩ : (lTg L a ≠ 46 ∧ (1 ≤ mI hq44 m 11 ∧ mI hq44 m 11 ≤ 60) ∧ mI hq44 m 8 = lTg L a - 48 ∧ (48 ≤ lTg L a ∧ lTg L a ≤ 53) ∧ mI hq44 m 9 = mkOf (lTg L) a e ∧ (-1 ≤ mkOf (lTg L) a e ∧ mkOf (lTg L) a e ≤ 9) ∧ (∀ j, 0 ≤ j → j < mI hq44 m 11 → 1 ≤ mI hq44 (m + 3) j ∧ mI hq44 (m + 3) j ≤ 99) ∧ ∀ A u, scE (lTg L) (lTg L a - 48) u (a + 2) A (weOf (lTg L) a e) = spF (lTg L a - 48) u (mI hq44 (m + 3)) A (mI hq44 m 11).toNat) := by
                        rcases hdat with z | z
                        · exfalso; omega
                        · exact z
                      have e8 : mI g3 m 8 = lTg L a - 48 := (k3m 8).trans d3
                      have e9 : mI g3 m 9 = mI hq44 m 9 := k3m 9
                      have eW : mI g3 (m + 3) k = mI hq44 (m + 3) k := by rw [k3w]
                      have hWr := d7 k (by omega) (by omega)
                      have hsp : spF (lTg L a - 48) (mI hq44 m 9) (mI hq44 (m + 3)) A1 (k).toNat = (A3, 0, 1) := by
                        rcases hmm with z | z
                        · exfalso; omega
                        · rcases z.2.2 with q | q
                          · exact q.2
                          · exfalso; omega
                      refine X.callV (ci := 6) (a := m) (rm := rm_X6_canSpeak) (As := []) (st := []) dX6_talk_109 ck_X6_56 rfl (by decide) k3L.1.1 rfl rfl ⟨Nat.le_of_ble_eq_true rfl, Nat.le_of_ble_eq_true rfl⟩ (Nat.le_of_ble_eq_true rfl) (Nat.le_of_ble_eq_true rfl) (Nat.le_of_ble_eq_true rfl) (pc' := 112) rfl (k_X6_canSpeak (A := A3) k3L.1 k3L.2.1 ok3) (fun q61 hq61 eq61 => ?_) (fun _ _ x1 => x1.elim)
                      obtain ⟨rfl, r112, rfl, hr112⟩ := eq61
                      refine X.istore_n (i := 2) (ls' := [some (rf m), some (vi y3), some (vi r112), some (vi k)]) (hi := rfl) (hd := dX6_talk_112) (by decide) rfl rfl (pc' := 113) rfl ?_
                      refine X.iload_n (i := 2) rfl rfl dX6_talk_113 (pc' := 114) rfl ?_
                      refine X.if_eq (tgt := 139) dX6_talk_114 ⟨by omega, by omega⟩ (by decide) (pc' := 117) rfl (fun c114 => ?_) (fun c114 => ?_)
                      · refine X.iinc (i := 3) (ls' := [some (rf m), some (vi y3), some (vi r112), some (vi (k + 1))]) dX6_talk_139 rfl (by decide) rfl rfl (pc' := 142) rfl ?_
                        refine X.goto (tgt := 96) dX6_talk_142 (by decide) ?_
                        refine ih96 g3 y3 r112 (k + 1) A3 (by omega) ?_
                        have hd1 : spF (lTg L a - 48) (mI hq44 m 9) (mI hq44 (m + 3)) A1 (k + 1).toNat = (A3, 0, 0) := by
                          rw [spF_at k3k.1, hsp]
                          unfold spk
                          rw [if_neg (show ¬ ((1 : Int) = 1 ∧ aW A3 < 200 ∧ aB A3 < 400) by omega)]
                        have hd2 := spF_dead hd1 (mI hq44 m 11 - (k + 1)).toNat
                        rw [show (k + 1).toNat + (mI hq44 m 11 - (k + 1)).toNat = (mI hq44 m 11).toNat by omega] at hd2
                        exact ⟨k3F, k33, k3L, k3m, k3w, k3y, by omega, by omega, Or.inr ⟨by omega, by omega, Or.inr ⟨by omega, hd2⟩⟩⟩
                      · refine X.aload_n (i := 0) rfl rfl dX6_talk_117 (pc' := 118) rfl ?_
                        refine X.aload_n (i := 0) rfl rfl dX6_talk_118 (pc' := 119) rfl ?_
                        refine X.getI (x := mI g3 m 8) fk_X6_105 xcl_6 dX6_talk_119 (by decide) k3L.1.1 rfl (pc' := 122) rfl (fun r62 => ?_)
                        obtain ⟨r62a, r62b⟩ := r62
                        refine X.aload_n (i := 0) rfl rfl dX6_talk_122 (pc' := 123) rfl ?_
                        refine X.getR fk_X6_18 xcl_6 dX6_talk_123 k3L.1.1 k3L.1.2.2.2.2.2.1 (pc' := 126) rfl ?_
                        refine X.iload_n (i := 3) rfl rfl dX6_talk_126 (pc' := 127) rfl ?_
                        refine X.iald (x := mI g3 ((m + 3)) k) dX6_talk_127 k3L.1.2.2.2.2.2.2 (by omega) (by omega) ⟨by omega, by omega⟩ rfl (pc' := 128) rfl (fun r63 => ?_)
                        obtain ⟨r63a, r63b⟩ := r63
                        refine X.aload_n (i := 0) rfl rfl dX6_talk_128 (pc' := 129) rfl ?_
                        refine X.getI (x := mI g3 m 9) fk_X6_95 xcl_6 dX6_talk_129 (by decide) k3L.1.1 rfl (pc' := 132) rfl (fun r64 => ?_)
                        obtain ⟨r64a, r64b⟩ := r64
                        refine X.callV (ci := 6) (a := m) (rm := rm_X6_speaks) (As := [vi (mI g3 m 8), vi (mI g3 ((m + 3)) k), vi (mI g3 m 9)]) (st := []) dX6_talk_132 ck_X6_67 rfl (by decide) k3L.1.1 rfl rfl ⟨Nat.le_of_ble_eq_true rfl, Nat.le_of_ble_eq_true rfl⟩ (Nat.le_of_ble_eq_true rfl) (Nat.le_of_ble_eq_true rfl) (Nat.le_of_ble_eq_true rfl) (pc' := 135) rfl (k_X6_speaks (A := A3) k3L.1 k3L.2.1 ok3 (by omega) (by omega) (by omega) pa3 (by omega) (by omega)) (fun q65 hq65 eq65 => ?_) (fun _ _ x1 => x1.elim)
                        obtain ⟨rfl, hME, hFE⟩ := eq65
                        rw [e8, eW, e9] at hME
                        have hok3 := aAdd_ok (s := lTg L a - 48) (w := mI hq44 (m + 3) k) (m := mI hq44 m 9) ok3 pa3 (by omega) ⟨by omega, by omega⟩ ⟨by omega, by omega⟩ ⟨by omega, by omega⟩
                        have hL4 : ML hq65 m (sA (sSave L) (aEnd (aAdd A3 (lTg L a - 48) (mI hq44 (m + 3) k) (mI hq44 m 9)))) := k3L.now hFE hME (aEnd_ok hok3 (show aB A3 < 400 by omega)) (aEnd_past hok3)
                        have hm4 : mI hq65 m = mI g3 m := hFE.2.1 m (by omega)
                        have hw4 : mI hq65 (m + 3) = mI g3 (m + 3) := hFE.2.1 (m + 3) (by omega)
                        refine X.pop rfl dX6_talk_135 (pc' := 136) rfl ?_
                        refine X.iinc (i := 1) (ls' := [some (rf m), some (vi (y3 + 1)), some (vi r112), some (vi k)]) dX6_talk_136 rfl (by decide) rfl rfl (pc' := 139) rfl ?_
                        refine X.iinc (i := 3) (ls' := [some (rf m), some (vi (y3 + 1)), some (vi r112), some (vi (k + 1))]) dX6_talk_139 rfl (by decide) rfl rfl (pc' := 142) rfl ?_
                        refine X.goto (tgt := 96) dX6_talk_142 (by decide) ?_
                        refine ih96 hq65 (y3 + 1) r112 (k + 1) (aEnd (aAdd A3 (lTg L a - 48) (mI hq44 (m + 3) k) (mI hq44 m 9))) (by omega) ?_
                        have hd1 : spF (lTg L a - 48) (mI hq44 m 9) (mI hq44 (m + 3)) A1 (k + 1).toNat = (aEnd (aAdd A3 (lTg L a - 48) (mI hq44 (m + 3) k) (mI hq44 m 9)), 0, 1) := by
                          rw [spF_at k3k.1, hsp]
                          unfold spk
                          rw [if_pos ⟨rfl, (show aW A3 < 200 by omega), (show aB A3 < 400 by omega)⟩]
                        exact ⟨k3F.tr hFE.1, by rw [hm4]; exact k33, hL4, fun j => by rw [hm4]; exact k3m j, by rw [hw4]; exact k3w, by (show y3 + 1 = aW A3 + 1 - aW (lA L)); omega, by omega, by omega, Or.inr ⟨by omega, by omega, Or.inl ⟨by omega, hd1⟩⟩⟩
              refine L96 _ g2 y l2 0 A2 (Nat.lt_succ_self _) ?_
              exact ⟨jF, j3, jL, jm, jw, by rw [jW]; exact hy, jl, by omega, by rcases jj with z | z; exact Or.inl ⟨z.1, rfl, z.2⟩; exact Or.inr ⟨z.1, by omega, Or.inl ⟨z.2.1, by rw [z.2.2]; rfl⟩⟩⟩
            refine X.if_ne (tgt := 94) dX6_talk_52 ⟨by omega, by omega⟩ (by decide) (pc' := 55) rfl (fun c52 => ?_) (fun c52 => ?_)
            · refine J94 hq44 l A1 ?_
              exact ⟨hFh7, h73, hL7, fun _ => rfl, rfl, rfl, by omega, Or.inr ⟨by omega, by omega, rfl⟩⟩
            · refine X.aload_n (i := 0) rfl rfl dX6_talk_55 (pc' := 56) rfl ?_
              refine X.getR fk_X6_8 xcl_6 dX6_talk_56 hL7.1.1 hL7.1.2.1 (pc' := 59) rfl ?_
              refine X.iconst dX6_talk_59 (pc' := 60) rfl ?_
              refine X.iald (x := aB A1) dX6_talk_60 hL7.1.2.2.1 (by omega) (by omega) ⟨by omega, by omega⟩ mB7 (pc' := 61) rfl (fun r66 => ?_)
              obtain ⟨r66a, r66b⟩ := r66
              refine X.aload_n (i := 0) rfl rfl dX6_talk_61 (pc' := 62) rfl ?_
              refine X.getI (x := mI hq44 m 10) fk_X6_92 xcl_6 dX6_talk_62 (by decide) hL7.1.1 rfl (pc' := 65) rfl (fun r67 => ?_)
              obtain ⟨r67a, r67b⟩ := r67
              refine X.iadd dX6_talk_65 (pc' := 66) rfl ?_
              refine X.sipush (by decide +kernel) dX6_talk_66 (pc' := 69) rfl ?_
              refine X.icmp_gt (tgt := 76) dX6_talk_69 ⟨by omega, by omega⟩ ⟨by omega, by omega⟩ (by decide) (pc' := 72) rfl (fun c69 => ?_) (fun c69 => ?_)
              · refine X.iconst dX6_talk_76 (pc' := 77) rfl ?_
                refine X.istore_n (i := 2) (ls' := [some (rf m), some (vi y), some (vi 0), none]) (hi := rfl) (hd := dX6_talk_77) (by decide) rfl rfl (pc' := 78) rfl ?_
                refine X.aload_n (i := 0) rfl rfl dX6_talk_78 (pc' := 79) rfl ?_
                refine X.iload_n (i := 2) rfl rfl dX6_talk_79 (pc' := 80) rfl ?_
                refine X.if_eq (tgt := 90) dX6_talk_80 ⟨by omega, by omega⟩ (by decide) (pc' := 83) rfl (fun c80 => ?_) (fun c80 => by exfalso; omega)
                refine X.iconst dX6_talk_90 (pc' := 91) rfl ?_
                refine X.callV (ci := 6) (a := m) (rm := rm_X6_passes) (As := [vi 0]) (st := []) dX6_talk_91 ck_X6_71 rfl (by decide) hL7.1.1 rfl rfl ⟨Nat.le_of_ble_eq_true rfl, Nat.le_of_ble_eq_true rfl⟩ (Nat.le_of_ble_eq_true rfl) (Nat.le_of_ble_eq_true rfl) (Nat.le_of_ble_eq_true rfl) (pc' := 94) rfl (k_X6_passes (A := A1) hL7.1 hL7.2.1 okg ⟨by omega, by omega⟩ hpg) (fun q68 hq68 eq68 => ?_) (fun _ _ x1 => x1.elim)
                obtain ⟨rfl, hME, hFE⟩ := eq68
                have hpo := aPast_rest okg hpg (0 : Int).toNat (by omega)
                have hL8 : ML hq68 m (sA (sSave L) (aRest A1 (0 : Int).toNat)) := hL7.now hFE hME hpo.2 hpo.1
                have hm8 : mI hq68 m = mI hq44 m := hFE.2.1 m (by omega)
                have hw8 : mI hq68 (m + 3) = mI hq44 (m + 3) := hFE.2.1 (m + 3) (by omega)
                refine J94 hq68 0 (aRest A1 (0 : Int).toNat) ?_
                have hk := tkF_rest (A := A1) (f := f2) (show a < lTn L by omega) (by rcases hdat with z | z; exact z.1; exfalso; omega) hpe (show mI hq44 m 10 = _ by rcases hdat with z | z; exact z.2.2.1; exfalso; omega)
                rw [hm1.2.2.2] at hk
                rw [if_neg (by omega)] at hk
                exact ⟨hFh7.tr hFE.1, by rw [hm8]; exact h73, hL8, fun j => by rw [hm8], hw8, aW_rest _ _, by omega, Or.inl ⟨by omega, Or.inr ⟨rfl, hk.symm⟩⟩⟩
              · refine X.iconst dX6_talk_72 (pc' := 73) rfl ?_
                refine X.goto (tgt := 77) dX6_talk_73 (by decide) ?_
                refine X.istore_n (i := 2) (ls' := [some (rf m), some (vi y), some (vi 1), none]) (hi := rfl) (hd := dX6_talk_77) (by decide) rfl rfl (pc' := 78) rfl ?_
                refine X.aload_n (i := 0) rfl rfl dX6_talk_78 (pc' := 79) rfl ?_
                refine X.iload_n (i := 2) rfl rfl dX6_talk_79 (pc' := 80) rfl ?_
                refine X.if_eq (tgt := 90) dX6_talk_80 ⟨by omega, by omega⟩ (by decide) (pc' := 83) rfl (fun c80 => by exfalso; omega) (fun c80 => ?_)
                refine X.aload_n (i := 0) rfl rfl dX6_talk_83 (pc' := 84) rfl ?_
                refine X.getI (x := mI hq44 m 10) fk_X6_92 xcl_6 dX6_talk_84 (by decide) hL7.1.1 rfl (pc' := 87) rfl (fun r69 => ?_)
                obtain ⟨r69a, r69b⟩ := r69
                refine X.goto (tgt := 91) dX6_talk_87 (by decide) ?_
                refine X.callV (ci := 6) (a := m) (rm := rm_X6_passes) (As := [vi (mI hq44 m 10)]) (st := []) dX6_talk_91 ck_X6_71 rfl (by decide) hL7.1.1 rfl rfl ⟨Nat.le_of_ble_eq_true rfl, Nat.le_of_ble_eq_true rfl⟩ (Nat.le_of_ble_eq_true rfl) (Nat.le_of_ble_eq_true rfl) (Nat.le_of_ble_eq_true rfl) (pc' := 94) rfl (k_X6_passes (A := A1) hL7.1 hL7.2.1 okg ⟨by omega, by omega⟩ hpg) (fun q70 hq70 eq70 => ?_) (fun _ _ x1 => x1.elim)
                obtain ⟨rfl, hME, hFE⟩ := eq70
                have hpo := aPast_rest okg hpg (mI hq44 m 10).toNat (by omega)
                have hL8 : ML hq70 m (sA (sSave L) (aRest A1 (mI hq44 m 10).toNat)) := hL7.now hFE hME hpo.2 hpo.1
                have hm8 : mI hq70 m = mI hq44 m := hFE.2.1 m (by omega)
                have hw8 : mI hq70 (m + 3) = mI hq44 (m + 3) := hFE.2.1 (m + 3) (by omega)
                refine J94 hq70 1 (aRest A1 (mI hq44 m 10).toNat) ?_
                have hk := tkF_rest (A := A1) (f := f2) (show a < lTn L by omega) (by rcases hdat with z | z; exact z.1; exfalso; omega) hpe (show mI hq44 m 10 = _ by rcases hdat with z | z; exact z.2.2.1; exfalso; omega)
                rw [hm1.2.2.2] at hk
                rw [if_pos (by omega)] at hk
                exact ⟨hFh7.tr hFE.1, by rw [hm8]; exact h73, hL8, fun j => by rw [hm8], hw8, aW_rest _ _, by omega, Or.inl ⟨by omega, Or.inl ⟨rfl, hk.symm⟩⟩⟩
      refine L40 _ h40 0 1 0 (lA L) 61 (Nat.lt_succ_self _) ?_
      exact ⟨hF6, by rw [wh40, if_neg (by omega)]; exact hM30, hL6, by rw [wh40, if_pos ⟨rfl, rfl⟩], by rw [wh40, if_neg (by omega)]; exact t57, by omega, by omega, Or.inl ⟨rfl, by omega, rfl, by omega, rfl⟩⟩
    · refine X.iconst dX6_talk_25 (pc' := 26) rfl ?_
      refine X.iret dX6_talk_26 (Or.inl rfl) (Nat.le_of_ble_eq_true rfl) (Nat.le_of_ble_eq_true rfl) ?_
      subst hPR
      refine ⟨hFq, _, rfl, Or.inr ⟨?_, rfl, hL2⟩⟩
      have hna : ¬ acc (rn (lTg L) (lTn L)) := by
        rcases hd3 with z | z
        · exfalso; omega
        · exact z.2.no (by omega)
      refine Or.inl ⟨hna, ?_⟩
      rw [hM3]; split <;> (try split) <;> (try split) <;> omega
