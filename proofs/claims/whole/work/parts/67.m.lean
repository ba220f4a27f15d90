/-- a part was read -/
def RdG (h' : xM) (m : Nat) (n : Int) (G : Int → Int) (p e : Int) : Prop := (TS h' m n G 0 e ∧ p < e ∧ acc (rn G e) ∧ (e < n → G e ≠ 59 → rn G (e + 1) = -1) ∧ (∀ j, p ≤ j → j < e → G j ≠ 59) ∧ ((G p = 46 ∧ mI h' m 11 = 0 ∧ mI h' m 10 = nvF G (p + 1) (e - (p + 1)).toNat ∧ (1 ≤ mI h' m 10 ∧ mI h' m 10 ≤ 50)) ∨ (G p ≠ 46 ∧ (1 ≤ mI h' m 11 ∧ mI h' m 11 ≤ 60) ∧ mI h' m 8 = G p - 48 ∧ (48 ≤ G p ∧ G p ≤ 53) ∧ mI h' m 9 = mkOf G p e ∧ (-1 ≤ mkOf G p e ∧ mkOf G p e ≤ 9) ∧ (∀ j, 0 ≤ j → j < mI h' m 11 → 1 ≤ mI h' (m + 3) j ∧ mI h' (m + 3) j ≤ 99) ∧ ∀ A u, scE G (G p - 48) u (p + 2) A (weOf G p e) = spF (G p - 48) u (mI h' (m + 3)) A (mI h' m 11).toNat)))
set_option maxHeartbeats 4000000 in
set_option maxRecDepth 100000 in
theorem k_X6_reads {Ω : xO} {h : xM} {m : Nat} {n p : Int} {G : Int → Int} (hS : MoS h m) (hT : TS h m n G 0 p) (hst : rn G p = 0) : xCt Ω yX6_reads cX6_reads 2 none rm_X6_reads [rf m] h (fun q h' => q = none ∧ FT h h' m ∧ ∃ e, (TS h' m n G 1 e ∧ Bad G n e) ∨ RdG h' m n G p e) xNo := by
  refine xCt_of (ini := false) (by decide +kernel) (Nat.le_of_ble_eq_true rfl) (fun q => absurd q (by decide)) ?_
  generalize hPR : (fun q h' => q = none ∧ FT h h' m ∧ ∃ e, (TS h' m n G 1 e ∧ Bad G n e) ∨ RdG h' m n G p e : Option xV → xM → Prop) = PR
  have K0 : X Ω RX6 cX6_reads 2 none false rm_X6_reads PR xNo 0 0 0 [some (rf m), none] [] h := ?_
  exact K0
  obtain ⟨⟨t5, t6, t7⟩, tw, ta, hT4⟩ := id hT
  refine X.aload_n (i := 0) rfl rfl dX6_reads_0 (pc' := 1) rfl ?_
  refine X.iconst dX6_reads_1 (pc' := 2) rfl ?_
  refine X.putI fk_X6_89 xcl_6 ⟨_, rfl, Or.inl rfl⟩ dX6_reads_2 (Or.inl rfl) ⟨by omega, by omega⟩ hS.1 (pc' := 5) rfl ?_
  refine X.genH (fun h1 hh1 => ?_)
  have wh1 : ∀ (w0 : Nat) (w1 : Int), mI h1 w0 w1 = if w0 = m ∧ w1 = 11 then 0 else mI h w0 w1 := fun _ _ => by rw [hh1]; rfl
  have S2 : MoS h1 m := by rw [hh1]; exact hS
  refine X.aload_n (i := 0) rfl rfl dX6_reads_5 (pc' := 6) rfl ?_
  refine X.iconst dX6_reads_6 (pc' := 7) rfl ?_
  refine X.putI fk_X6_92 xcl_6 ⟨_, rfl, Or.inl rfl⟩ dX6_reads_7 (Or.inl rfl) ⟨by omega, by omega⟩ S2.1 (pc' := 10) rfl ?_
  refine X.genH (fun h3 hh3 => ?_)
  have wh3 : ∀ (w0 : Nat) (w1 : Int), mI h3 w0 w1 = if w0 = m ∧ w1 = 10 then 0 else mI h1 w0 w1 := fun _ _ => by rw [hh3]; rfl
  have S4 : MoS h3 m := by rw [hh3]; exact S2
  refine X.aload_n (i := 0) rfl rfl dX6_reads_10 (pc' := 11) rfl ?_
  refine X.iconst dX6_reads_11 (pc' := 12) rfl ?_
  refine X.putI fk_X6_95 xcl_6 ⟨_, rfl, Or.inl rfl⟩ dX6_reads_12 (Or.inl rfl) ⟨by omega, by omega⟩ S4.1 (pc' := 15) rfl ?_
  refine X.genH (fun h5 hh5 => ?_)
  have wh5 : ∀ (w0 : Nat) (w1 : Int), mI h5 w0 w1 = if w0 = m ∧ w1 = 9 then (-1) else mI h3 w0 w1 := fun _ _ => by rw [hh5]; rfl
  have S6 : MoS h5 m := by rw [hh5]; exact S4
  have hF1 : FT h h5 m := by rw [hh5, hh3, hh1]; exact FT.w (FT.w (FT.w FT.rf (by omega)) (by omega)) (by omega)
  have hS1 : MoS h5 m := hS.ft hF1.1
  have hT1 : TS h5 m n G 0 p := hT.ft hF1 (by rw [wh5, if_neg (by omega), wh3, if_neg (by omega), wh1, if_neg (by omega)]; exact t6) (by rw [wh5, if_neg (by omega), wh3, if_neg (by omega), wh1, if_neg (by omega)]; exact t7) (by omega) ⟨by omega, by omega⟩
  have f11 : mI h5 m 11 = 0 := by rw [wh5, if_neg (by omega), wh3, if_neg (by omega), wh1, if_pos ⟨rfl, rfl⟩]
  have f10 : mI h5 m 10 = 0 := by rw [wh5, if_neg (by omega), wh3, if_pos ⟨rfl, rfl⟩]
  have f9 : mI h5 m 9 = -1 := by rw [wh5, if_pos ⟨rfl, rfl⟩]
  have b6 := hT1.1.2.1
  refine X.aload_n (i := 0) rfl rfl dX6_reads_15 (pc' := 16) rfl ?_
  refine X.bipush (by decide +kernel) dX6_reads_16 (pc' := 18) rfl ?_
  refine X.bipush (by decide +kernel) dX6_reads_18 (pc' := 20) rfl ?_
  refine X.callV (ci := 6) (a := m) (rm := rm_X6_isNow) (As := [vi 46, vi 46]) (st := []) dX6_reads_20 ck_X6_85 rfl (by decide) hS1.1 rfl rfl ⟨Nat.le_of_ble_eq_true rfl, Nat.le_of_ble_eq_true rfl⟩ (Nat.le_of_ble_eq_true rfl) (Nat.le_of_ble_eq_true rfl) (Nat.le_of_ble_eq_true rfl) (pc' := 23) rfl (k_X6_isNow hS1 hT1 ⟨by omega, by omega⟩ ⟨by omega, by omega⟩) (fun q7 hq7 eq7 => ?_) (fun _ _ x1 => x1.elim)
  obtain ⟨rfl, r20, rfl, hr20⟩ := eq7
  refine X.if_eq (tgt := 49) dX6_reads_23 ⟨by omega, by omega⟩ (by decide) (pc' := 26) rfl (fun c23 => ?_) (fun c23 => ?_)
  · refine X.aload_n (i := 0) rfl rfl dX6_reads_49 (pc' := 50) rfl ?_
    refine X.aload_n (i := 0) rfl rfl dX6_reads_50 (pc' := 51) rfl ?_
    refine X.iconst dX6_reads_51 (pc' := 52) rfl ?_
    refine X.callV (ci := 6) (a := m) (rm := rm_X6_digit) (As := [vi 5]) (st := [rf m]) dX6_reads_52 ck_X6_102 rfl (by decide) hS1.1 rfl rfl ⟨Nat.le_of_ble_eq_true rfl, Nat.le_of_ble_eq_true rfl⟩ (Nat.le_of_ble_eq_true rfl) (Nat.le_of_ble_eq_true rfl) (Nat.le_of_ble_eq_true rfl) (pc' := 55) rfl (k_X6_digit hS1 hT1 ⟨by omega, by omega⟩) (fun q8 hq8 eq8 => ?_) (fun _ _ x1 => x1.elim)
    obtain ⟨hF4, r4, rfl, w4, a4, hT4', hc4⟩ := eq8
    have hS4 : MoS hq8 m := hS1.ft hF4.1
    have hr4 : -48 ≤ r4 ∧ r4 ≤ 1000 := by
      have z1 := hT4'.2.2.1
      omega
    refine X.putI fk_X6_105 xcl_6 ⟨_, rfl, Or.inl rfl⟩ dX6_reads_55 (Or.inl rfl) ⟨by omega, by omega⟩ hS4.1 (pc' := 58) rfl ?_
    refine X.genH (fun h9 hh9 => ?_)
    have wh9 : ∀ (w0 : Nat) (w1 : Int), mI h9 w0 w1 = if w0 = m ∧ w1 = 8 then r4 else mI hq8 w0 w1 := fun _ _ => by rw [hh9]; rfl
    have S10 : MoS h9 m := by rw [hh9]; exact hS4
    have hF5 : FT h h9 m := by rw [hh9]; exact FT.w (hF1.tr hF4.ft) (by omega)
    have hS5 : MoS h9 m := hS.ft hF5.1
    have hT5 : TS h9 m n G w4 a4 := hT4'.ft (by rw [hh9]; exact FT.w FT.rf (by omega)) (by rw [wh9, if_neg (by omega)]; exact hT4'.1.2.1) (by rw [wh9, if_neg (by omega)]; exact hT4'.1.2.2) hT4'.2.1 ⟨hT4'.2.2.1.1, hT4'.2.2.1.2.1⟩
    have v8 : mI h9 m 8 = r4 := by rw [wh9, if_pos ⟨rfl, rfl⟩]
    have v9 : mI h9 m 9 = -1 := by rw [wh9, if_neg (by omega), hF4.2.2 9 (by omega) (by omega)]; exact f9
    have v11 : mI h9 m 11 = 0 := by rw [wh9, if_neg (by omega), hF4.2.2 11 (by omega) (by omega)]; exact f11
    refine X.aload_n (i := 0) rfl rfl dX6_reads_58 (pc' := 59) rfl ?_
    refine X.bipush (by decide +kernel) dX6_reads_59 (pc' := 61) rfl ?_
    refine X.callV (ci := 6) (a := m) (rm := rm_X6_sign) (As := [vi 58]) (st := []) dX6_reads_61 ck_X6_108 rfl (by decide) hS5.1 rfl rfl ⟨Nat.le_of_ble_eq_true rfl, Nat.le_of_ble_eq_true rfl⟩ (Nat.le_of_ble_eq_true rfl) (Nat.le_of_ble_eq_true rfl) (Nat.le_of_ble_eq_true rfl) (pc' := 64) rfl (k_X6_sign hS5 hT5 ⟨by omega, by omega⟩) (fun q11 hq11 eq11 => ?_) (fun _ _ x1 => x1.elim)
    obtain ⟨rfl, hF6, w6, a6, hT6, hc6⟩ := eq11
    have hS6 : MoS hq11 m := hS5.ft hF6.1
    have u8 : mI hq11 m 8 = r4 := (hF6.2.2 8 (by omega) (by omega)).trans v8
    have u9 : mI hq11 m 9 = -1 := (hF6.2.2 9 (by omega) (by omega)).trans v9
    have u11 : mI hq11 m 11 = 0 := (hF6.2.2 11 (by omega) (by omega)).trans v11
    refine X.iconst dX6_reads_64 (pc' := 65) rfl ?_
    refine X.istore_n (i := 1) (ls' := [some (rf m), some (vi 1)]) (hi := rfl) (hd := dX6_reads_65) (by decide) rfl rfl (pc' := 66) rfl ?_
    have L66 : ∀ (n66 : Nat) (g : xM) (l : Int) (k : Int) (w : Int) (a : Int) (sv : Int), l.toNat * 100 + (100 - a).toNat < n66 → (FT h g m ∧ mI g m 11 = k ∧ mI g m 9 = -1 ∧ mI g m 8 = sv ∧ TS g m n G w a ∧ (l = 0 ∨ l = 1) ∧ 0 ≤ k ∧ (w = 0 → (sv = G p - 48 ∧ (48 ≤ G p ∧ G p ≤ 53)) ∧ (∀ j, p ≤ j → j < a → G j ≠ 59) ∧ (∀ j, 0 ≤ j → j < k → 1 ≤ mI g (m + 3) j ∧ mI g (m + 3) j ≤ 99)) ∧ ((w = 0 ∧ l = 1 ∧ rn G a = 2 ∧ p + 2 ≤ a ∧ 2 * k ≤ a - (p + 2) ∧ (∀ A u, scF G (G p - 48) u (p + 2) A (a - (p + 2)).toNat = spF (G p - 48) u (mI g (m + 3)) A k.toNat) ∧ G (a - 1) ≠ 35) ∨ (w = 0 ∧ l = 0 ∧ (rn G a = 3 ∨ rn G a = 4) ∧ p + 3 ≤ a ∧ 1 ≤ k ∧ 2 * k ≤ a + 1 - (p + 2) ∧ (a < n → G a ≠ 44 ∧ (rn G a = 3 → ¬ (48 ≤ G a ∧ G a ≤ 57))) ∧ (∀ A u, spk (G p - 48) u (scF G (G p - 48) u (p + 2) A (a - (p + 2)).toNat) = spF (G p - 48) u (mI g (m + 3)) A k.toNat) ∧ G (a - 2) ≠ 35) ∨ (w = 1 ∧ Bad G n a ∧ (l = 0 ∨ k = 0) ∧ k ≤ 31))) → X Ω RX6 cX6_reads 2 none false rm_X6_reads PR xNo 0 0 66 [some (rf m), some (vi l)] [] g := by
      intro n66
      induction n66 with
      | zero => intro g l k w a sv hm _; exfalso; omega
      | succ n66 ih66 =>
        intro g l k w a sv hm66 hinv
        obtain ⟨hFg, g11, g9, g8, hTg, hl01, hk0, hcom, hmode⟩ := hinv
        have hSg : MoS g m := hS.ft hFg.1
        have tgr := hTg.2.2.1
        have hk60 : k ≤ 31 := by rcases hmode with z | z | z <;> omega
        refine X.iload_n (i := 1) rfl rfl dX6_reads_66 (pc' := 67) rfl ?_
        refine X.if_eq (tgt := 125) dX6_reads_67 ⟨by omega, by omega⟩ (by decide) (pc' := 70) rfl (fun c67 => ?_) (fun c67 => ?_)
        · refine X.aload_n (i := 0) rfl rfl dX6_reads_125 (pc' := 126) rfl ?_
          refine X.bipush (by decide +kernel) dX6_reads_126 (pc' := 128) rfl ?_
          refine X.bipush (by decide +kernel) dX6_reads_128 (pc' := 130) rfl ?_
          refine X.callV (ci := 6) (a := m) (rm := rm_X6_isNow) (As := [vi 35, vi 35]) (st := []) dX6_reads_130 ck_X6_85 rfl (by decide) hSg.1 rfl rfl ⟨Nat.le_of_ble_eq_true rfl, Nat.le_of_ble_eq_true rfl⟩ (Nat.le_of_ble_eq_true rfl) (Nat.le_of_ble_eq_true rfl) (Nat.le_of_ble_eq_true rfl) (pc' := 133) rfl (k_X6_isNow hSg hTg ⟨by omega, by omega⟩ ⟨by omega, by omega⟩) (fun q12 hq12 eq12 => ?_) (fun _ _ x1 => x1.elim)
          obtain ⟨rfl, r130, rfl, hr130⟩ := eq12
          refine X.if_eq (tgt := 156) dX6_reads_133 ⟨by omega, by omega⟩ (by decide) (pc' := 136) rfl (fun c133 => ?_) (fun c133 => ?_)
          · refine X.vret dX6_reads_156 rfl (Nat.le_of_ble_eq_true rfl) (Nat.le_of_ble_eq_true rfl) ?_
            subst hPR
            refine ⟨rfl, hFg, a, ?_⟩
            rcases hmode with ⟨m1, m2, m3⟩ | ⟨m1, m2, m3, m4, m5, m6, m7, m8, m9⟩ | ⟨m1, m2, m3⟩
            · exfalso; omega
            · have hcm := hcom m1
              rw [m1] at hTg
              have hmk : ¬ (p < a - 2 ∧ G (a - 2) = 35) := fun z => m9 z.2
              refine Or.inr ⟨hTg, by omega, by unfold acc; omega, fun y1 y2 => ?_, hcm.2.1, Or.inr ⟨by omega, by omega, by rw [g8]; exact hcm.1.1, hcm.1.2, ?_, ?_, by rw [g11]; exact hcm.2.2, fun A u => ?_⟩⟩
              · have h5 := m7 y1
                rcases m3 with q | q
                · have q2 := rn_st (show 0 ≤ a by omega) q
                  rw [nx_3] at q2
                  have := h5.2 q
                  omega
                · have q2 := rn_st (show 0 ≤ a by omega) q
                  rw [nx_4] at q2
                  omega
              · unfold mkOf; rw [if_neg hmk]; exact g9
              · unfold mkOf; rw [if_neg hmk]; omega
              · unfold scE weOf
                rw [if_neg hmk, g11]
                exact m8 A u
            · rw [m1] at hTg
              exact Or.inl ⟨hTg, m2⟩
          · have g6 := hTg.1.2.1
            refine X.aload_n (i := 0) rfl rfl dX6_reads_136 (pc' := 137) rfl ?_
            refine X.dup rfl dX6_reads_137 (pc' := 138) rfl ?_
            refine X.getI (x := mI g m 6) fk_X6_82 xcl_6 dX6_reads_138 (by decide) hSg.1 rfl (pc' := 141) rfl (fun r13 => ?_)
            obtain ⟨r13a, r13b⟩ := r13
            refine X.iconst dX6_reads_141 (pc' := 142) rfl ?_
            refine X.iadd dX6_reads_142 (pc' := 143) rfl ?_
            refine X.putI fk_X6_82 xcl_6 ⟨_, rfl, Or.inl rfl⟩ dX6_reads_143 (Or.inl rfl) ⟨by omega, by omega⟩ hSg.1 (pc' := 146) rfl ?_
            refine X.genH (fun h14 hh14 => ?_)
            have wh14 : ∀ (w0 : Nat) (w1 : Int), mI h14 w0 w1 = if w0 = m ∧ w1 = 6 then (mI g m 6) + 1 else mI g w0 w1 := fun _ _ => by rw [hh14]; rfl
            have S15 : MoS h14 m := by rw [hh14]; exact hSg
            have hF11 : FT h h14 m := by rw [hh14]; exact FT.w hFg (by omega)
            have hS11 : MoS h14 m := hS.ft hF11.1
            have hw0 : w = 0 ∧ a < n := by omega
            have hT11 : TS h14 m n G 0 (a + 1) := hT.ft hF11 (by rw [wh14, if_pos ⟨rfl, rfl⟩, hTg.1.2.1]) (by rw [wh14, if_neg (by omega), hTg.1.2.2]; exact hw0.1) (by omega) ⟨by omega, by omega⟩
            refine X.aload_n (i := 0) rfl rfl dX6_reads_146 (pc' := 147) rfl ?_
            refine X.aload_n (i := 0) rfl rfl dX6_reads_147 (pc' := 148) rfl ?_
            refine X.bipush (by decide +kernel) dX6_reads_148 (pc' := 150) rfl ?_
            refine X.callV (ci := 6) (a := m) (rm := rm_X6_digit) (As := [vi 9]) (st := [rf m]) dX6_reads_150 ck_X6_102 rfl (by decide) hS11.1 rfl rfl ⟨Nat.le_of_ble_eq_true rfl, Nat.le_of_ble_eq_true rfl⟩ (Nat.le_of_ble_eq_true rfl) (Nat.le_of_ble_eq_true rfl) (Nat.le_of_ble_eq_true rfl) (pc' := 153) rfl (k_X6_digit hS11 hT11 ⟨by omega, by omega⟩) (fun q16 hq16 eq16 => ?_) (fun _ _ x1 => x1.elim)
            obtain ⟨hF12, r12, rfl, w12, a12, hT12, hc12⟩ := eq16
            have hS12 : MoS hq16 m := MoS.ft hS11 hF12.1
            have hr12 : -48 ≤ r12 ∧ r12 ≤ 1000 := by
              have z1 := hT12.2.2.1
              omega
            refine X.putI fk_X6_95 xcl_6 ⟨_, rfl, Or.inl rfl⟩ dX6_reads_153 (Or.inl rfl) ⟨by omega, by omega⟩ hS12.1 (pc' := 156) rfl ?_
            refine X.genH (fun h17 hh17 => ?_)
            have wh17 : ∀ (w0 : Nat) (w1 : Int), mI h17 w0 w1 = if w0 = m ∧ w1 = 9 then r12 else mI hq16 w0 w1 := fun _ _ => by rw [hh17]; rfl
            have S18 : MoS h17 m := by rw [hh17]; exact hS12
            refine X.vret dX6_reads_156 rfl (Nat.le_of_ble_eq_true rfl) (Nat.le_of_ble_eq_true rfl) ?_
            subst hPR
            have hF13 : FT h h17 m := by rw [hh17]; exact FT.w (hF11.tr hF12.ft) (by omega)
            have hT13 : TS h17 m n G w12 a12 := hT.ft hF13 (by rw [wh17, if_neg (by omega)]; exact hT12.1.2.1) (by rw [wh17, if_neg (by omega)]; exact hT12.1.2.2) hT12.2.1 ⟨hT12.2.2.1.1, hT12.2.2.1.2.1⟩
            have hW13 : mI h17 (m + 3) = mI g (m + 3) := by
              funext j
              rw [wh17, if_neg (by omega), hF12.2.1 (m + 3) (by omega), wh14, if_neg (by omega)]
            have s9 : mI h17 m 9 = r12 := by rw [wh17, if_pos ⟨rfl, rfl⟩]
            have s8 : mI h17 m 8 = sv := by rw [wh17, if_neg (by omega), hF12.2.2 8 (by omega) (by omega), wh14, if_neg (by omega)]; exact g8
            have s11 : mI h17 m 11 = k := by rw [wh17, if_neg (by omega), hF12.2.2 11 (by omega) (by omega), wh14, if_neg (by omega)]; exact g11
            have tr12 := hT12.2.2.1
            refine ⟨rfl, hF13, a12, ?_⟩
            rcases hmode with ⟨m1, m2, m3⟩ | ⟨m1, m2, m3, m4, m5, m6, m7, m8, m9⟩ | ⟨m1, m2, m3⟩
            · exfalso; omega
            · have hcm := hcom m1
              have c35 : G a = 35 := by omega
              have e5 : rn G (a + 1) = 5 := by
                rcases m3 with q | q
                · have q2 := rn_st (show 0 ≤ a by omega) q
                  rw [nx_3] at q2
                  omega
                · have q2 := rn_st (show 0 ≤ a by omega) q
                  rw [nx_4] at q2
                  omega
              have e6 := rn_st (show 0 ≤ a + 1 by omega) e5
              rw [nx_5, show a + 1 + 1 = a + 2 by omega] at e6
              rw [show a + 1 + 1 = a + 2 by omega] at hc12
              rcases hc12 with ⟨z1, z2, z3, z4, z5, z6⟩ | ⟨z1, z2, z3, z4⟩
              · rw [z1, z2] at hT13
                have e7 : rn G (a + 2) = 9 := by omega
                have e8 := rn_st (show 0 ≤ a + 2 by omega) e7
                rw [nx_9] at e8
                have hmk : p < a + 2 - 2 ∧ G (a + 2 - 2) = 35 := by rw [show a + 2 - 2 = a by omega]; exact ⟨by omega, c35⟩
                rw [z2]
                refine Or.inr ⟨hT13, by omega, by unfold acc; omega, fun y1 y2 => by omega, fun j y1 y2 => ?_, Or.inr ⟨by omega, by omega, by rw [s8]; exact hcm.1.1, hcm.1.2, ?_, ?_, by rw [s11, hW13]; exact hcm.2.2, fun A u => ?_⟩⟩
                · by_cases q : j < a
                  · exact hcm.2.1 j y1 q
                  · by_cases q2 : j = a
                    · rw [q2]; omega
                    · rw [show j = a + 1 by omega]; omega
                · unfold mkOf; rw [if_pos hmk, show a + 2 - 1 = a + 1 by omega]; omega
                · unfold mkOf; rw [if_pos hmk, show a + 2 - 1 = a + 1 by omega]; omega
                · unfold scE weOf
                  rw [if_pos hmk, s11, hW13, show a + 2 - 2 = a by omega]
                  exact m8 A u
              · rw [z1, z2] at hT13
                rw [z2]
                refine Or.inl ⟨hT13, by omega, ?_⟩
                by_cases q : a + 1 = n
                · refine Or.inl ⟨q, ?_⟩
                  rw [← q, e5]; unfold acc; omega
                · refine Or.inr ⟨by omega, ?_⟩
                  rw [show a + 1 + 1 = a + 2 by omega]
                  omega
            · exfalso; omega
        · refine X.aload_n (i := 0) rfl rfl dX6_reads_70 (pc' := 71) rfl ?_
          refine X.getR fk_X6_18 xcl_6 dX6_reads_71 hSg.1 hSg.2.2.2.2.2.1 (pc' := 74) rfl ?_
          refine X.aload_n (i := 0) rfl rfl dX6_reads_74 (pc' := 75) rfl ?_
          refine X.getI (x := mI g m 11) fk_X6_89 xcl_6 dX6_reads_75 (by decide) hSg.1 rfl (pc' := 78) rfl (fun r19 => ?_)
          obtain ⟨r19a, r19b⟩ := r19
          refine X.aload_n (i := 0) rfl rfl dX6_reads_78 (pc' := 79) rfl ?_
          refine X.bipush (by decide +kernel) dX6_reads_79 (pc' := 81) rfl ?_
          refine X.callV (ci := 6) (a := m) (rm := rm_X6_number) (As := [vi 99]) (st := [vi (mI g m 11), rf ((m + 3))]) dX6_reads_81 ck_X6_98 rfl (by decide) hSg.1 rfl rfl ⟨Nat.le_of_ble_eq_true rfl, Nat.le_of_ble_eq_true rfl⟩ (Nat.le_of_ble_eq_true rfl) (Nat.le_of_ble_eq_true rfl) (Nat.le_of_ble_eq_true rfl) (pc' := 84) rfl (k_X6_number hSg hTg ⟨by omega, by omega⟩) (fun q20 hq20 eq20 => ?_) (fun _ _ x1 => x1.elim)
          obtain ⟨hF7, r7, rfl, w7, a7, hT7, hc7⟩ := eq20
          have hS7 : MoS hq20 m := hSg.ft hF7.1
          have t7r := hT7.2.2.1
          have hr7 : 0 ≤ r7 ∧ r7 ≤ 99 := by omega
          have p11 : mI hq20 m 11 = k := (hF7.2.2 11 (by omega) (by omega)).trans g11
          have p9 : mI hq20 m 9 = -1 := (hF7.2.2 9 (by omega) (by omega)).trans g9
          have p8 : mI hq20 m 8 = sv := (hF7.2.2 8 (by omega) (by omega)).trans g8
          refine X.iast dX6_reads_84 hS7.2.2.2.2.2.2 (by omega) (by omega) ⟨by omega, by omega⟩ ⟨by omega, by omega⟩ (pc' := 85) rfl ?_
          refine X.genH (fun h21 hh21 => ?_)
          have wh21 : ∀ (w0 : Nat) (w1 : Int), mI h21 w0 w1 = if w0 = (m + 3) ∧ w1 = mI g m 11 then r7 else mI hq20 w0 w1 := fun _ _ => by rw [hh21]; rfl
          have S22 : MoS h21 m := by rw [hh21]; exact hS7
          refine X.aload_n (i := 0) rfl rfl dX6_reads_85 (pc' := 86) rfl ?_
          refine X.dup rfl dX6_reads_86 (pc' := 87) rfl ?_
          have p11b : mI h21 m 11 = k := by rw [wh21, if_neg (by omega)]; exact p11
          refine X.getI (x := mI h21 m 11) fk_X6_89 xcl_6 dX6_reads_87 (by decide) S22.1 rfl (pc' := 90) rfl (fun r23 => ?_)
          obtain ⟨r23a, r23b⟩ := r23
          refine X.iconst dX6_reads_90 (pc' := 91) rfl ?_
          refine X.iadd dX6_reads_91 (pc' := 92) rfl ?_
          refine X.putI fk_X6_89 xcl_6 ⟨_, rfl, Or.inl rfl⟩ dX6_reads_92 (Or.inl rfl) ⟨by omega, by omega⟩ S22.1 (pc' := 95) rfl ?_
          refine X.genH (fun h24 hh24 => ?_)
          have wh24 : ∀ (w0 : Nat) (w1 : Int), mI h24 w0 w1 = if w0 = m ∧ w1 = 11 then (mI h21 m 11) + 1 else mI h21 w0 w1 := fun _ _ => by rw [hh24]; rfl
          have S25 : MoS h24 m := by rw [hh24]; exact S22
          have hW8 : ∀ j, mI h24 (m + 3) j = if j = k then r7 else mI g (m + 3) j := fun j => by
            rw [wh24, if_neg (by omega), wh21, g11, hF7.2.1 (m + 3) (by omega)]
            by_cases q : j = k
            · rw [if_pos ⟨rfl, q⟩, if_pos q]
            · rw [if_neg (fun c => q c.2), if_neg q]
          have hF8 : FT h h24 m := by rw [hh24, hh21]; exact FT.w (FT.w3 (hFg.tr hF7.ft)) (by omega)
          have hS8 : MoS h24 m := hS.ft hF8.1
          have hT8 : TS h24 m n G w7 a7 := hT.ft hF8 (by rw [wh24, if_neg (by omega), wh21, if_neg (by omega)]; exact hT7.1.2.1) (by rw [wh24, if_neg (by omega), wh21, if_neg (by omega)]; exact hT7.1.2.2) hT7.2.1 ⟨t7r.1, t7r.2.1⟩
          have q11 : mI h24 m 11 = k + 1 := by rw [wh24, if_pos ⟨rfl, rfl⟩, wh21, if_neg (by omega), p11]
          have q9 : mI h24 m 9 = -1 := by rw [wh24, if_neg (by omega), wh21, if_neg (by omega), p9]
          have q8 : mI h24 m 8 = sv := by rw [wh24, if_neg (by omega), wh21, if_neg (by omega), p8]
          have q6 := hT8.1.2.1
          refine X.aload_n (i := 0) rfl rfl dX6_reads_95 (pc' := 96) rfl ?_
          refine X.bipush (by decide +kernel) dX6_reads_96 (pc' := 98) rfl ?_
          refine X.bipush (by decide +kernel) dX6_reads_98 (pc' := 100) rfl ?_
          refine X.callV (ci := 6) (a := m) (rm := rm_X6_isNow) (As := [vi 44, vi 44]) (st := []) dX6_reads_100 ck_X6_85 rfl (by decide) hS8.1 rfl rfl ⟨Nat.le_of_ble_eq_true rfl, Nat.le_of_ble_eq_true rfl⟩ (Nat.le_of_ble_eq_true rfl) (Nat.le_of_ble_eq_true rfl) (Nat.le_of_ble_eq_true rfl) (pc' := 103) rfl (k_X6_isNow hS8 hT8 ⟨by omega, by omega⟩ ⟨by omega, by omega⟩) (fun q26 hq26 eq26 => ?_) (fun _ _ x1 => x1.elim)
          obtain ⟨rfl, r103, rfl, hr103⟩ := eq26
          refine X.istore_n (i := 1) (ls' := [some (rf m), some (vi r103)]) (hi := rfl) (hd := dX6_reads_103) (by decide) rfl rfl (pc' := 104) rfl ?_
          refine X.aload_n (i := 0) rfl rfl dX6_reads_104 (pc' := 105) rfl ?_
          refine X.dup rfl dX6_reads_105 (pc' := 106) rfl ?_
          refine X.getI (x := mI h24 m 6) fk_X6_82 xcl_6 dX6_reads_106 (by decide) hS8.1 rfl (pc' := 109) rfl (fun r27 => ?_)
          obtain ⟨r27a, r27b⟩ := r27
          refine X.iload_n (i := 1) rfl rfl dX6_reads_109 (pc' := 110) rfl ?_
          refine X.if_eq (tgt := 117) dX6_reads_110 ⟨by omega, by omega⟩ (by decide) (pc' := 113) rfl (fun c110 => ?_) (fun c110 => ?_)
          · refine X.iconst dX6_reads_117 (pc' := 118) rfl ?_
            refine X.iadd dX6_reads_118 (pc' := 119) rfl ?_
            refine X.putI fk_X6_82 xcl_6 ⟨_, rfl, Or.inl rfl⟩ dX6_reads_119 (Or.inl rfl) ⟨by omega, by omega⟩ hS8.1 (pc' := 122) rfl ?_
            refine X.genH (fun h28 hh28 => ?_)
            have wh28 : ∀ (w0 : Nat) (w1 : Int), mI h28 w0 w1 = if w0 = m ∧ w1 = 6 then (mI h24 m 6) + 0 else mI h24 w0 w1 := fun _ _ => by rw [hh28]; rfl
            have S29 : MoS h28 m := by rw [hh28]; exact hS8
            refine X.goto (tgt := 66) dX6_reads_122 (by decide) ?_
            refine ih66 h28 r103 (k + 1) w7 (a7 + 0) sv (by omega) ?_
            have hF9 : FT h h28 m := by rw [hh28]; exact FT.w hF8 (by omega)
            have hT9 : TS h28 m n G w7 (a7 + 0) := hT.ft hF9 (by rw [wh28, if_pos ⟨rfl, rfl⟩, q6]) (by rw [wh28, if_neg (by omega)]; exact hT8.1.2.2) hT8.2.1 ⟨by omega, by omega⟩
            have hW9 : ∀ j, mI h28 (m + 3) j = if j = k then r7 else mI g (m + 3) j := fun j => by rw [wh28, if_neg (by omega)]; exact hW8 j
            have hWp : ∀ j, 0 ≤ j → j < k → mI g (m + 3) j = mI h28 (m + 3) j := fun j z1 z2 => by rw [hW9, if_neg (by omega)]
            have hWk : mI h28 (m + 3) k = r7 := by rw [hW9, if_pos rfl]
            have hl1 : l = 1 := by omega
            have hK : mI h28 m 11 = k + 1 ∧ mI h28 m 9 = -1 ∧ mI h28 m 8 = sv := ⟨by rw [wh28, if_neg (by omega)]; exact q11, by rw [wh28, if_neg (by omega)]; exact q9, by rw [wh28, if_neg (by omega)]; exact q8⟩
            refine ⟨hF9, hK.1, hK.2.1, hK.2.2, hT9, by omega, by omega, ?_⟩
            rcases hmode with ⟨m1, m2, m3, m4, m5, m6, m7⟩ | ⟨m1, m2, m3⟩ | ⟨m1, m2, m3, m4⟩
            · have hcm := hcom m1
              have e3 := rn_st (show 0 ≤ a by omega) m3
              rw [nx_2] at e3
              have hwk : w7 = 0 → ∀ j, 0 ≤ j → j < k + 1 → 1 ≤ mI h28 (m + 3) j ∧ mI h28 (m + 3) j ≤ 99 := fun y0 j y1 y2 => by
                rw [hW9]
                by_cases q : j = k
                · rw [if_pos q]; omega
                · rw [if_neg q]; exact hcm.2.2 j y1 (by omega)
              rcases hc7 with ⟨z1, z2, z3, z4, z5, z6, z7⟩ | ⟨z1, z2, z3, z4, z5, z6, z7, z8⟩ | ⟨z1, z2, z3, z4⟩
              · have e4 : rn G (a + 1) = 3 := by omega
                have hsw := sc_word (G := G) (s := G p - 48) (W' := mI h28 (m + 3)) m4 hk0 m6 (Or.inl ⟨z2, z3, by omega⟩) hWp hWk
                have e5 := rn_st (show 0 ≤ a + 1 by omega) e4
                rw [nx_3, show a + 1 + 1 = a + 2 by omega] at e5
                have h9 : a + 1 < n → ¬ (48 ≤ G (a + 1) ∧ G (a + 1) ≤ 57) := fun y1 y2 => z7 ⟨y1, y2, by omega⟩
                rw [z2] at hsw ⊢
                refine ⟨fun _ => ⟨hcm.1, fun j y1 y2 => ?_, hwk z1⟩, Or.inr (Or.inl ⟨z1, by omega, ?_, by omega, by omega, by omega, fun y1 => ?_, fun A u => ?_, ?_⟩)⟩
                · by_cases q : j < a
                  · exact hcm.2.1 j y1 q
                  · rw [show j = a by omega]; omega
                · rw [Int.add_zero]; exact Or.inl e4
                · rw [Int.add_zero] at y1 ⊢
                  rw [z2] at hr103
                  exact ⟨by omega, fun _ => h9 y1⟩
                · rw [Int.add_zero]; exact hsw A u
                · rw [show a + 1 + 0 - 2 = a - 1 by omega]; exact m7
              · have e4 : rn G (a + 1) = 3 := by omega
                have e5 := rn_st (show 0 ≤ a + 1 by omega) e4
                rw [nx_3, show a + 1 + 1 = a + 2 by omega] at e5
                have e6 : rn G (a + 2) = 4 := by omega
                have hsw := sc_word (G := G) (s := G p - 48) (W' := mI h28 (m + 3)) m4 hk0 m6 (Or.inr ⟨z2, by omega, by omega, by omega⟩) hWp hWk
                have e7 := rn_st (show 0 ≤ a + 2 by omega) e6
                rw [nx_4] at e7
                rw [z2] at hsw ⊢
                refine ⟨fun _ => ⟨hcm.1, fun j y1 y2 => ?_, hwk z1⟩, Or.inr (Or.inl ⟨z1, by omega, ?_, by omega, by omega, by omega, fun y1 => ?_, fun A u => ?_, ?_⟩)⟩
                · by_cases q : j < a
                  · exact hcm.2.1 j y1 q
                  · by_cases q2 : j = a
                    · rw [q2]; omega
                    · rw [show j = a + 1 by omega]; omega
                · rw [Int.add_zero]; exact Or.inr e6
                · rw [Int.add_zero] at y1 ⊢
                  rw [z2] at hr103
                  exact ⟨by omega, fun _ => by omega⟩
                · rw [Int.add_zero]; exact hsw A u
                · rw [show a + 2 + 0 - 2 = a by omega]; omega
              · refine ⟨fun z => absurd z (by omega), Or.inr (Or.inr ⟨z1, ?_, ?_, by omega⟩)⟩
                · rw [show a7 + 0 = a by omega]
                  refine ⟨by omega, ?_⟩
                  by_cases q : a = n
                  · refine Or.inl ⟨q, ?_⟩
                    rw [← q, m3]; unfold acc; omega
                  · exact Or.inr ⟨by omega, by omega⟩
                · omega
            · exfalso; omega
            · have z1 : w7 = 1 ∧ a7 = a ∧ r7 = 0 := by omega
              refine ⟨fun z => absurd z (by omega), Or.inr (Or.inr ⟨z1.1, ?_, ?_, by omega⟩)⟩
              · rw [show a7 + 0 = a by omega]; exact m2
              · omega
          · refine X.iconst dX6_reads_113 (pc' := 114) rfl ?_
            refine X.goto (tgt := 118) dX6_reads_114 (by decide) ?_
            refine X.iadd dX6_reads_118 (pc' := 119) rfl ?_
            refine X.putI fk_X6_82 xcl_6 ⟨_, rfl, Or.inl rfl⟩ dX6_reads_119 (Or.inl rfl) ⟨by omega, by omega⟩ hS8.1 (pc' := 122) rfl ?_
            refine X.genH (fun h30 hh30 => ?_)
            have wh30 : ∀ (w0 : Nat) (w1 : Int), mI h30 w0 w1 = if w0 = m ∧ w1 = 6 then (mI h24 m 6) + 1 else mI h24 w0 w1 := fun _ _ => by rw [hh30]; rfl
            have S31 : MoS h30 m := by rw [hh30]; exact hS8
            refine X.goto (tgt := 66) dX6_reads_122 (by decide) ?_
            refine ih66 h30 r103 (k + 1) w7 (a7 + 1) sv (by omega) ?_
            have hF9 : FT h h30 m := by rw [hh30]; exact FT.w hF8 (by omega)
            have hT9 : TS h30 m n G w7 (a7 + 1) := hT.ft hF9 (by rw [wh30, if_pos ⟨rfl, rfl⟩, q6]) (by rw [wh30, if_neg (by omega)]; exact hT8.1.2.2) hT8.2.1 ⟨by omega, by omega⟩
            have hW9 : ∀ j, mI h30 (m + 3) j = if j = k then r7 else mI g (m + 3) j := fun j => by rw [wh30, if_neg (by omega)]; exact hW8 j
            have hWp : ∀ j, 0 ≤ j → j < k → mI g (m + 3) j = mI h30 (m + 3) j := fun j z1 z2 => by rw [hW9, if_neg (by omega)]
            have hWk : mI h30 (m + 3) k = r7 := by rw [hW9, if_pos rfl]
            have hl1 : l = 1 := by omega
            have hK : mI h30 m 11 = k + 1 ∧ mI h30 m 9 = -1 ∧ mI h30 m 8 = sv := ⟨by rw [wh30, if_neg (by omega)]; exact q11, by rw [wh30, if_neg (by omega)]; exact q9, by rw [wh30, if_neg (by omega)]; exact q8⟩
            refine ⟨hF9, hK.1, hK.2.1, hK.2.2, hT9, by omega, by omega, ?_⟩
            rcases hmode with ⟨m1, m2, m3, m4, m5, m6, m7⟩ | ⟨m1, m2, m3⟩ | ⟨m1, m2, m3, m4⟩
            · have hcm := hcom m1
              have e3 := rn_st (show 0 ≤ a by omega) m3
              rw [nx_2] at e3
              have hwk : w7 = 0 → ∀ j, 0 ≤ j → j < k + 1 → 1 ≤ mI h30 (m + 3) j ∧ mI h30 (m + 3) j ≤ 99 := fun y0 j y1 y2 => by
                rw [hW9]
                by_cases q : j = k
                · rw [if_pos q]; omega
                · rw [if_neg q]; exact hcm.2.2 j y1 (by omega)
              rcases hc7 with ⟨z1, z2, z3, z4, z5, z6, z7⟩ | ⟨z1, z2, z3, z4, z5, z6, z7, z8⟩ | ⟨z1, z2, z3, z4⟩
              · have e4 : rn G (a + 1) = 3 := by omega
                have hsw := sc_word (G := G) (s := G p - 48) (W' := mI h30 (m + 3)) m4 hk0 m6 (Or.inl ⟨z2, z3, by omega⟩) hWp hWk
                have e5 := rn_st (show 0 ≤ a + 1 by omega) e4
                rw [nx_3, show a + 1 + 1 = a + 2 by omega] at e5
                have h9 : a + 1 < n → ¬ (48 ≤ G (a + 1) ∧ G (a + 1) ≤ 57) := fun y1 y2 => z7 ⟨y1, y2, by omega⟩
                rw [z2] at hsw ⊢
                have c44 : G (a + 1) = 44 := by rw [z2] at hr103; omega
                refine ⟨fun _ => ⟨hcm.1, fun j y1 y2 => ?_, hwk z1⟩, Or.inl ⟨z1, by omega, ?_, by omega, by omega, fun A u => ?_, ?_⟩⟩
                · by_cases q : j < a
                  · exact hcm.2.1 j y1 q
                  · by_cases q2 : j = a
                    · rw [q2]; omega
                    · rw [show j = a + 1 by omega]; omega
                · rw [show a + 1 + 1 = a + 2 by omega]; omega
                · rw [← hsw A u, scF_at (k := a + 1) (by omega), scS_44 c44]
                · rw [show a + 1 + 1 - 1 = a + 1 by omega, c44]; decide
              · have e4 : rn G (a + 1) = 3 := by omega
                have e5 := rn_st (show 0 ≤ a + 1 by omega) e4
                rw [nx_3, show a + 1 + 1 = a + 2 by omega] at e5
                have e6 : rn G (a + 2) = 4 := by omega
                have hsw := sc_word (G := G) (s := G p - 48) (W' := mI h30 (m + 3)) m4 hk0 m6 (Or.inr ⟨z2, by omega, by omega, by omega⟩) hWp hWk
                have e7 := rn_st (show 0 ≤ a + 2 by omega) e6
                rw [nx_4] at e7
                rw [z2] at hsw ⊢
                have c44 : G (a + 2) = 44 := by rw [z2] at hr103; omega
                refine ⟨fun _ => ⟨hcm.1, fun j y1 y2 => ?_, hwk z1⟩, Or.inl ⟨z1, by omega, ?_, by omega, by omega, fun A u => ?_, ?_⟩⟩
                · by_cases q : j < a
                  · exact hcm.2.1 j y1 q
                  · by_cases q2 : j = a
                    · rw [q2]; omega
                    · by_cases q3 : j = a + 1
                      · rw [q3]; omega
                      · rw [show j = a + 2 by omega]; omega
                · omega
                · rw [← hsw A u, scF_at (k := a + 2) (by omega), scS_44 c44]
                · rw [show a + 2 + 1 - 1 = a + 2 by omega, c44]; decide
              · refine ⟨fun z => absurd z (by omega), Or.inr (Or.inr ⟨z1, ?_, ?_, by omega⟩)⟩
                · rw [show a7 + 1 = a by omega]
                  refine ⟨by omega, ?_⟩
                  by_cases q : a = n
                  · refine Or.inl ⟨q, ?_⟩
                    rw [← q, m3]; unfold acc; omega
                  · exact Or.inr ⟨by omega, by omega⟩
                · omega
            · exfalso; omega
            · have z1 : w7 = 1 ∧ a7 = a ∧ r7 = 0 := by omega
              refine ⟨fun z => absurd z (by omega), Or.inr (Or.inr ⟨z1.1, ?_, ?_, by omega⟩)⟩
              · rw [show a7 + 1 = a by omega]; exact m2
              · omega
    refine L66 _ hq11 1 0 w6 a6 r4 (Nat.lt_succ_self _) ?_
    have ta6 := hT6.2.2.1
    have ta4 := hT4'.2.2.1
    refine ⟨hF5.tr hF6.ft, u11, u9, u8, hT6, Or.inr rfl, by omega, fun z => ⟨⟨by omega, by omega⟩, fun j z1 z2 => ?_, fun j z1 z2 => by omega⟩, ?_⟩
    · by_cases q : j = p
      · rw [q]; omega
      · rw [show j = p + 1 by omega]
        have : a4 = p + 1 := by omega
        rw [this] at hc6
        omega
    · have zp := rn_st (show 0 ≤ p by omega) hst
      rw [nx_0] at zp
      rcases hc4 with ⟨z1, z2, z3, z4, z5, z7⟩ | ⟨z1, z2, z3, z4⟩
      · rw [z1, z2] at hc6
        have zp1 : rn G (p + 1) = 1 := by omega
        have zq := rn_st (show 0 ≤ p + 1 by omega) zp1
        rw [nx_1] at zq
        rcases hc6 with ⟨y1, y2, y3, y4, y5⟩ | ⟨y1, y2, y3⟩
        · refine Or.inl ⟨y1, rfl, ?_, by omega, by omega, fun A u => ?_, ?_⟩
          · rw [y2]; omega
          · rw [show a6 - (p + 2) = 0 by omega]; rfl
          · rw [show a6 - 1 = p + 1 by omega, y5]; decide
        · refine Or.inr (Or.inr ⟨y1, ?_, Or.inr rfl, by decide⟩)
          rw [y2]
          refine ⟨by omega, ?_⟩
          by_cases q : p + 1 = n
          · refine Or.inl ⟨q, ?_⟩
            rw [← q, zp1]; unfold acc; omega
          · exact Or.inr ⟨by omega, by omega⟩
      · rw [z1, z2] at hc6
        rcases hc6 with ⟨y1, y2, y3, y4, y5⟩ | ⟨y1, y2, y3⟩
        · exfalso; omega
        · refine Or.inr (Or.inr ⟨y1, ?_, Or.inr rfl, by decide⟩)
          rw [y2]
          refine ⟨by omega, ?_⟩
          by_cases q : p = n
          · refine Or.inl ⟨q, ?_⟩
            rw [← q, hst]; unfold acc; omega
          · exact Or.inr ⟨by omega, by omega⟩
  · refine X.aload_n (i := 0) rfl rfl dX6_reads_26 (pc' := 27) rfl ?_
    refine X.dup rfl dX6_reads_27 (pc' := 28) rfl ?_
    refine X.getI (x := mI h5 m 6) fk_X6_82 xcl_6 dX6_reads_28 (by decide) hS1.1 rfl (pc' := 31) rfl (fun r32 => ?_)
    obtain ⟨r32a, r32b⟩ := r32
    refine X.iconst dX6_reads_31 (pc' := 32) rfl ?_
    refine X.iadd dX6_reads_32 (pc' := 33) rfl ?_
    refine X.putI fk_X6_82 xcl_6 ⟨_, rfl, Or.inl rfl⟩ dX6_reads_33 (Or.inl rfl) ⟨by omega, by omega⟩ hS1.1 (pc' := 36) rfl ?_
    refine X.genH (fun h33 hh33 => ?_)
    have wh33 : ∀ (w0 : Nat) (w1 : Int), mI h33 w0 w1 = if w0 = m ∧ w1 = 6 then (mI h5 m 6) + 1 else mI h5 w0 w1 := fun _ _ => by rw [hh33]; rfl
    have S34 : MoS h33 m := by rw [hh33]; exact hS1
    have hF2 : FT h h33 m := by rw [hh33]; exact FT.w hF1 (by omega)
    have hS2 : MoS h33 m := hS.ft hF2.1
    have hT2 : TS h33 m n G 0 (p + 1) := hT.ft hF2 (by rw [wh33, if_pos ⟨rfl, rfl⟩, b6]) (by rw [wh33, if_neg (by omega)]; exact hT1.1.2.2) (by omega) ⟨by omega, by omega⟩
    have k11 : mI h33 m 11 = 0 := by rw [wh33, if_neg (by omega)]; exact f11
    refine X.aload_n (i := 0) rfl rfl dX6_reads_36 (pc' := 37) rfl ?_
    refine X.aload_n (i := 0) rfl rfl dX6_reads_37 (pc' := 38) rfl ?_
    refine X.bipush (by decide +kernel) dX6_reads_38 (pc' := 40) rfl ?_
    refine X.callV (ci := 6) (a := m) (rm := rm_X6_number) (As := [vi 50]) (st := [rf m]) dX6_reads_40 ck_X6_98 rfl (by decide) hS2.1 rfl rfl ⟨Nat.le_of_ble_eq_true rfl, Nat.le_of_ble_eq_true rfl⟩ (Nat.le_of_ble_eq_true rfl) (Nat.le_of_ble_eq_true rfl) (Nat.le_of_ble_eq_true rfl) (pc' := 43) rfl (k_X6_number hS2 hT2 ⟨by omega, by omega⟩) (fun q35 hq35 eq35 => ?_) (fun _ _ x1 => x1.elim)
    obtain ⟨hF3, r3, rfl, w3, a3, hT3, hc3⟩ := eq35
    have hS3 : MoS hq35 m := MoS.ft hS2 hF3.1
    have hr3 : -48 ≤ r3 ∧ r3 ≤ 1000 := by
      have z1 := hT3.2.2.1
      omega
    refine X.putI fk_X6_92 xcl_6 ⟨_, rfl, Or.inl rfl⟩ dX6_reads_43 (Or.inl rfl) ⟨by omega, by omega⟩ hS3.1 (pc' := 46) rfl ?_
    refine X.genH (fun h36 hh36 => ?_)
    have wh36 : ∀ (w0 : Nat) (w1 : Int), mI h36 w0 w1 = if w0 = m ∧ w1 = 10 then r3 else mI hq35 w0 w1 := fun _ _ => by rw [hh36]; rfl
    have S37 : MoS h36 m := by rw [hh36]; exact hS3
    refine X.goto (tgt := 156) dX6_reads_46 (by decide) ?_
    refine X.vret dX6_reads_156 rfl (Nat.le_of_ble_eq_true rfl) (Nat.le_of_ble_eq_true rfl) ?_
    subst hPR
    have hF5 : FT h h36 m := by rw [hh36]; exact FT.w (hF2.tr hF3.ft) (by omega)
    have v6 : mI h36 m 6 = a3 := by rw [wh36, if_neg (by omega)]; exact hT3.1.2.1
    have v7 : mI h36 m 7 = w3 := by rw [wh36, if_neg (by omega)]; exact hT3.1.2.2
    have v10 : mI h36 m 10 = r3 := by rw [wh36, if_pos ⟨rfl, rfl⟩]
    have v11 : mI h36 m 11 = 0 := by rw [wh36, if_neg (by omega), hF3.2.2 11 (by omega) (by omega)]; exact k11
    have hT5 : TS h36 m n G w3 a3 := hT.ft hF5 v6 v7 hT3.2.1 ⟨by have := hT3.2.2.1; omega, by have := hT3.2.2.1; omega⟩
    have hp46 : G p = 46 := by omega
    have hp1 : rn G (p + 1) = 6 := by
      have z := rn_st (show 0 ≤ p by omega) hst
      rw [nx_0, if_pos hp46] at z
      exact z
    have z6 := rn_st (show 0 ≤ p + 1 by omega) hp1
    rw [nx_6] at z6
    have n1 : nvF G (p + 1) (p + 2 - (p + 1)).toNat = G (p + 1) - 48 := by
      rw [show (p + 2 - (p + 1)).toNat = 0 + 1 by omega]
      show 0 * 10 + (G (p + 1 + ((0 : Nat) : Int)) - 48) = _
      rw [show p + 1 + ((0 : Nat) : Int) = p + 1 by omega]
      omega
    have n2 : nvF G (p + 1) (p + 3 - (p + 1)).toNat = 10 * (G (p + 1) - 48) + G (p + 2) - 48 := by
      rw [show p + 3 - (p + 1) = p + 2 + 1 - (p + 1) by omega, nvF_at (by omega), n1]
      omega
    refine ⟨rfl, hF5, a3, ?_⟩
    rw [show p + 1 + 1 = p + 2 by omega] at hc3 z6
    rcases hc3 with ⟨z1, z2, z3, z4, z5, z7, z8⟩ | ⟨z1, z2, z3, z4, z5, z7, z8, z9⟩ | ⟨z1, z2, z3, z4⟩
    · rw [z1] at hT5
      refine Or.inr ⟨hT5, by omega, ?_, fun y1 y2 => ?_, fun j y1 y2 => ?_, Or.inl ⟨hp46, v11, ?_, by omega⟩⟩
      · rw [z2]; unfold acc; omega
      · rw [z2] at y1 y2 ⊢
        have z0 : rn G (p + 2) = 7 ∨ rn G (p + 2) = 8 ∨ rn G (p + 2) = 9 := by omega
        rcases z0 with q | q | q
        · have q2 := rn_st (show 0 ≤ p + 2 by omega) q
          rw [nx_7] at q2
          omega
        · have q2 := rn_st (show 0 ≤ p + 2 by omega) q
          rw [nx_8] at q2
          omega
        · have q2 := rn_st (show 0 ≤ p + 2 by omega) q
          rw [nx_9] at q2
          omega
      · by_cases q : j = p
        · rw [q]; omega
        · rw [show j = p + 1 by omega]; omega
      · rw [v10, z2, n1, z3]
    · rw [z1] at hT5
      have z12 : rn G (p + 2) = 7 ∨ (rn G (p + 2) = 8 ∧ G (p + 2) = 48) := by omega
      have z13 : rn G (p + 3) = 9 := by
        rcases z12 with q | q
        · have q2 := rn_st (show 0 ≤ p + 2 by omega) q
          rw [nx_7, show p + 2 + 1 = p + 3 by omega] at q2
          omega
        · have q2 := rn_st (show 0 ≤ p + 2 by omega) q.1
          rw [nx_8, show p + 2 + 1 = p + 3 by omega] at q2
          omega
      have z14 : a3 = p + 3 := by omega
      refine Or.inr ⟨hT5, by omega, ?_, fun y1 y2 => ?_, fun j y1 y2 => ?_, Or.inl ⟨hp46, v11, ?_, by omega⟩⟩
      · rw [z14]; unfold acc; omega
      · rw [z14] at y1 y2 ⊢
        have q2 := rn_st (show 0 ≤ p + 3 by omega) z13
        rw [nx_9] at q2
        omega
      · by_cases q : j = p
        · rw [q]; omega
        · by_cases q1 : j = p + 1
          · rw [q1]; omega
          · rw [show j = p + 2 by omega]; omega
      · rw [v10, z14, n2, z3]
    · rw [z1] at hT5
      refine Or.inl ⟨hT5, ?_⟩
      rw [z2]
      refine ⟨by omega, ?_⟩
      by_cases q : p + 1 = n
      · refine Or.inl ⟨q, ?_⟩
        rw [← q]; unfold acc; omega
      · refine Or.inr ⟨by omega, ?_⟩
        rw [show p + 1 + 1 = p + 2 by omega]
        omega
