set_option maxHeartbeats 4000000 in
set_option maxRecDepth 100000 in
theorem k_X0_become {Ω : xO} {h : xM} {b o : Nat} {A : aS} (hC : ChS h b) (hR : RC h o A) (hd : b + 29 ≤ o ∨ o + 29 ≤ b) : xCt Ω yX0_become cX0_become 3 none rm_X0_become [rf b, rf o] h (fun q h' => q = none ∧ RC h' b A ∧ Fr h h' b) xNo := by
  refine xCt_of (ini := false) (by decide +kernel) (Nat.le_of_ble_eq_true rfl) (fun q => absurd q (by decide)) ?_
  generalize hPR : (fun q h' => q = none ∧ RC h' b A ∧ Fr h h' b : Option xV → xM → Prop) = PR
  have K0 : X Ω RX0 cX0_become 3 none false rm_X0_become PR xNo 0 0 0 [some (rf b), some (rf o), none] [] h := ?_
  exact K0
  obtain ⟨okB, okN, okWl, okS, okW, okM, okC, okH⟩ := id hR.1.2.1
  refine X.aload_n (i := 0) rfl rfl dX0_become_0 (pc' := 1) rfl ?_
  refine X.aload_n (i := 1) rfl rfl dX0_become_1 (pc' := 2) rfl ?_
  refine X.getI (x := mI h o 0) fk_X0_44 xcl_0 dX0_become_2 (by decide) hR.1.1.1 rfl (pc' := 5) rfl (fun r1 => ?_)
  obtain ⟨r1a, r1b⟩ := r1
  have e5 : mI h o 0 = aB A := hR.1.2.2.1
  refine X.putI fk_X0_44 xcl_0 ⟨_, rfl, Or.inl rfl⟩ dX0_become_5 (Or.inl rfl) ⟨by omega, by omega⟩ hC.1 (pc' := 8) rfl ?_
  refine X.genH (fun h2 hh2 => ?_)
  have wh2 : ∀ (a : Nat) (j : Int), mI h2 a j = if a = b ∧ j = 0 then mI h o 0 else mI h a j := fun _ _ => by rw [hh2]; rfl
  have S3 : ChS h2 b := by rw [hh2]; exact hC
  have S4 : ChS h2 o := by rw [hh2]; exact hR.1.1
  refine X.aload_n (i := 0) rfl rfl dX0_become_8 (pc' := 9) rfl ?_
  refine X.aload_n (i := 1) rfl rfl dX0_become_9 (pc' := 10) rfl ?_
  refine X.getI (x := mI h2 o 1) fk_X0_48 xcl_0 dX0_become_10 (by decide) S4.1 rfl (pc' := 13) rfl (fun r5 => ?_)
  obtain ⟨r5a, r5b⟩ := r5
  have e13 : mI h2 o 1 = aW A := by rw [wh2, if_neg (by omega)]; exact hR.1.2.2.2.1
  refine X.putI fk_X0_48 xcl_0 ⟨_, rfl, Or.inl rfl⟩ dX0_become_13 (Or.inl rfl) ⟨by omega, by omega⟩ S3.1 (pc' := 16) rfl ?_
  refine X.genH (fun h6 hh6 => ?_)
  have wh6 : ∀ (a : Nat) (j : Int), mI h6 a j = if a = b ∧ j = 1 then mI h2 o 1 else mI h2 a j := fun _ _ => by rw [hh6]; rfl
  have S7 : ChS h6 b := by rw [hh6]; exact S3
  have S8 : ChS h6 o := by rw [hh6]; exact S4
  refine X.aload_n (i := 1) rfl rfl dX0_become_16 (pc' := 17) rfl ?_
  refine X.getR fk_X0_9 xcl_0 dX0_become_17 S8.1 S8.2.1.1 (pc' := 20) rfl ?_
  refine X.iconst dX0_become_20 (pc' := 21) rfl ?_
  refine X.aload_n (i := 0) rfl rfl dX0_become_21 (pc' := 22) rfl ?_
  refine X.getR fk_X0_9 xcl_0 dX0_become_22 S7.1 S7.2.1.1 (pc' := 25) rfl ?_
  refine X.iconst dX0_become_25 (pc' := 26) rfl ?_
  refine X.aload_n (i := 0) rfl rfl dX0_become_26 (pc' := 27) rfl ?_
  refine X.getR fk_X0_9 xcl_0 dX0_become_27 S7.1 S7.2.1.1 (pc' := 30) rfl ?_
  refine X.alen dX0_become_30 S7.2.1.2 rfl (pc' := 31) rfl ?_
  refine X.copy dX0_become_31 wd_171 wd_173 wd_172 wd_30 S8.2.1.2 S7.2.1.2 (by omega) (by omega) (by omega) (by omega) (by omega) (by decide) (by decide) rfl ⟨Nat.le_of_ble_eq_true rfl, Nat.le_of_ble_eq_true rfl⟩ (pc' := 34) rfl ?_
  refine X.genH (fun h9 hh9 => ?_)
  have wh9 : ∀ (a : Nat) (j : Int), mI h9 a j = if a = (b + 1) ∧ 0 ≤ j ∧ j < 0 + 6 then mI h6 (o + 1) (0 + (j - 0)) else mI h6 a j := fun _ _ => by rw [hh9]; rfl
  have S10 : ChS h9 b := by rw [hh9]; exact S7
  have S11 : ChS h9 o := by rw [hh9]; exact S8
  refine X.aload_n (i := 1) rfl rfl dX0_become_34 (pc' := 35) rfl ?_
  refine X.getR fk_X0_15 xcl_0 dX0_become_35 S11.1 S11.2.2.1.1 (pc' := 38) rfl ?_
  refine X.iconst dX0_become_38 (pc' := 39) rfl ?_
  refine X.aload_n (i := 0) rfl rfl dX0_become_39 (pc' := 40) rfl ?_
  refine X.getR fk_X0_15 xcl_0 dX0_become_40 S10.1 S10.2.2.1.1 (pc' := 43) rfl ?_
  refine X.iconst dX0_become_43 (pc' := 44) rfl ?_
  refine X.aload_n (i := 0) rfl rfl dX0_become_44 (pc' := 45) rfl ?_
  refine X.getR fk_X0_15 xcl_0 dX0_become_45 S10.1 S10.2.2.1.1 (pc' := 48) rfl ?_
  refine X.alen dX0_become_48 S10.2.2.1.2 rfl (pc' := 49) rfl ?_
  refine X.copy dX0_become_49 wd_171 wd_173 wd_172 wd_30 S11.2.2.1.2 S10.2.2.1.2 (by omega) (by omega) (by omega) (by omega) (by omega) (by decide) (by decide) rfl ⟨Nat.le_of_ble_eq_true rfl, Nat.le_of_ble_eq_true rfl⟩ (pc' := 52) rfl ?_
  refine X.genH (fun h12 hh12 => ?_)
  have wh12 : ∀ (a : Nat) (j : Int), mI h12 a j = if a = (b + 2) ∧ 0 ≤ j ∧ j < 0 + 3 then mI h9 (o + 2) (0 + (j - 0)) else mI h9 a j := fun _ _ => by rw [hh12]; rfl
  have S13 : ChS h12 b := by rw [hh12]; exact S10
  have S14 : ChS h12 o := by rw [hh12]; exact S11
  refine X.aload_n (i := 1) rfl rfl dX0_become_52 (pc' := 53) rfl ?_
  refine X.getR fk_X0_18 xcl_0 dX0_become_53 S14.1 S14.2.2.2.1.1 (pc' := 56) rfl ?_
  refine X.iconst dX0_become_56 (pc' := 57) rfl ?_
  refine X.aload_n (i := 0) rfl rfl dX0_become_57 (pc' := 58) rfl ?_
  refine X.getR fk_X0_18 xcl_0 dX0_become_58 S13.1 S13.2.2.2.1.1 (pc' := 61) rfl ?_
  refine X.iconst dX0_become_61 (pc' := 62) rfl ?_
  refine X.aload_n (i := 0) rfl rfl dX0_become_62 (pc' := 63) rfl ?_
  refine X.getI (x := mI h12 b 1) fk_X0_48 xcl_0 dX0_become_63 (by decide) S13.1 rfl (pc' := 66) rfl (fun r15 => ?_)
  obtain ⟨r15a, r15b⟩ := r15
  have e63 : mI h12 b 1 = aW A := by rw [wh12, if_neg (by omega), wh9, if_neg (by omega), wh6, if_pos ⟨rfl, rfl⟩, wh2, if_neg (by omega), hR.1.2.2.2.1]
  refine X.copy dX0_become_66 wd_171 wd_173 wd_172 wd_30 S14.2.2.2.1.2 S13.2.2.2.1.2 (by omega) (by omega) (by omega) (by omega) (by omega) (by decide) (by decide) rfl ⟨Nat.le_of_ble_eq_true rfl, Nat.le_of_ble_eq_true rfl⟩ (pc' := 69) rfl ?_
  refine X.genH (fun h16 hh16 => ?_)
  have wh16 : ∀ (a : Nat) (j : Int), mI h16 a j = if a = (b + 3) ∧ 0 ≤ j ∧ j < 0 + mI h12 b 1 then mI h12 (o + 3) (0 + (j - 0)) else mI h12 a j := fun _ _ => by rw [hh16]; rfl
  have S17 : ChS h16 b := by rw [hh16]; exact S13
  have S18 : ChS h16 o := by rw [hh16]; exact S14
  refine X.aload_n (i := 1) rfl rfl dX0_become_69 (pc' := 70) rfl ?_
  refine X.getR fk_X0_21 xcl_0 dX0_become_70 S18.1 S18.2.2.2.2.1.1 (pc' := 73) rfl ?_
  refine X.iconst dX0_become_73 (pc' := 74) rfl ?_
  refine X.aload_n (i := 0) rfl rfl dX0_become_74 (pc' := 75) rfl ?_
  refine X.getR fk_X0_21 xcl_0 dX0_become_75 S17.1 S17.2.2.2.2.1.1 (pc' := 78) rfl ?_
  refine X.iconst dX0_become_78 (pc' := 79) rfl ?_
  refine X.aload_n (i := 0) rfl rfl dX0_become_79 (pc' := 80) rfl ?_
  refine X.getI (x := mI h16 b 1) fk_X0_48 xcl_0 dX0_become_80 (by decide) S17.1 rfl (pc' := 83) rfl (fun r19 => ?_)
  obtain ⟨r19a, r19b⟩ := r19
  have e80 : mI h16 b 1 = aW A := by rw [wh16, if_neg (by omega), wh12, if_neg (by omega), wh9, if_neg (by omega), wh6, if_pos ⟨rfl, rfl⟩, wh2, if_neg (by omega), hR.1.2.2.2.1]
  refine X.copy dX0_become_83 wd_171 wd_173 wd_172 wd_30 S18.2.2.2.2.1.2 S17.2.2.2.2.1.2 (by omega) (by omega) (by omega) (by omega) (by omega) (by decide) (by decide) rfl ⟨Nat.le_of_ble_eq_true rfl, Nat.le_of_ble_eq_true rfl⟩ (pc' := 86) rfl ?_
  refine X.genH (fun h20 hh20 => ?_)
  have wh20 : ∀ (a : Nat) (j : Int), mI h20 a j = if a = (b + 4) ∧ 0 ≤ j ∧ j < 0 + mI h16 b 1 then mI h16 (o + 4) (0 + (j - 0)) else mI h16 a j := fun _ _ => by rw [hh20]; rfl
  have S21 : ChS h20 b := by rw [hh20]; exact S17
  have S22 : ChS h20 o := by rw [hh20]; exact S18
  refine X.aload_n (i := 1) rfl rfl dX0_become_86 (pc' := 87) rfl ?_
  refine X.getR fk_X0_24 xcl_0 dX0_become_87 S22.1 S22.2.2.2.2.2.1.1 (pc' := 90) rfl ?_
  refine X.iconst dX0_become_90 (pc' := 91) rfl ?_
  refine X.aload_n (i := 0) rfl rfl dX0_become_91 (pc' := 92) rfl ?_
  refine X.getR fk_X0_24 xcl_0 dX0_become_92 S21.1 S21.2.2.2.2.2.1.1 (pc' := 95) rfl ?_
  refine X.iconst dX0_become_95 (pc' := 96) rfl ?_
  refine X.aload_n (i := 0) rfl rfl dX0_become_96 (pc' := 97) rfl ?_
  refine X.getI (x := mI h20 b 1) fk_X0_48 xcl_0 dX0_become_97 (by decide) S21.1 rfl (pc' := 100) rfl (fun r23 => ?_)
  obtain ⟨r23a, r23b⟩ := r23
  have e97 : mI h20 b 1 = aW A := by rw [wh20, if_neg (by omega), wh16, if_neg (by omega), wh12, if_neg (by omega), wh9, if_neg (by omega), wh6, if_pos ⟨rfl, rfl⟩, wh2, if_neg (by omega), hR.1.2.2.2.1]
  refine X.copy dX0_become_100 wd_171 wd_173 wd_172 wd_30 S22.2.2.2.2.2.1.2 S21.2.2.2.2.2.1.2 (by omega) (by omega) (by omega) (by omega) (by omega) (by decide) (by decide) rfl ⟨Nat.le_of_ble_eq_true rfl, Nat.le_of_ble_eq_true rfl⟩ (pc' := 103) rfl ?_
  refine X.genH (fun h24 hh24 => ?_)
  have wh24 : ∀ (a : Nat) (j : Int), mI h24 a j = if a = (b + 5) ∧ 0 ≤ j ∧ j < 0 + mI h20 b 1 then mI h20 (o + 5) (0 + (j - 0)) else mI h20 a j := fun _ _ => by rw [hh24]; rfl
  have S25 : ChS h24 b := by rw [hh24]; exact S21
  have S26 : ChS h24 o := by rw [hh24]; exact S22
  refine X.aload_n (i := 1) rfl rfl dX0_become_103 (pc' := 104) rfl ?_
  refine X.getR fk_X0_27 xcl_0 dX0_become_104 S26.1 S26.2.2.2.2.2.2.1.1 (pc' := 107) rfl ?_
  refine X.iconst dX0_become_107 (pc' := 108) rfl ?_
  refine X.aload_n (i := 0) rfl rfl dX0_become_108 (pc' := 109) rfl ?_
  refine X.getR fk_X0_27 xcl_0 dX0_become_109 S25.1 S25.2.2.2.2.2.2.1.1 (pc' := 112) rfl ?_
  refine X.iconst dX0_become_112 (pc' := 113) rfl ?_
  refine X.aload_n (i := 0) rfl rfl dX0_become_113 (pc' := 114) rfl ?_
  refine X.getI (x := mI h24 b 1) fk_X0_48 xcl_0 dX0_become_114 (by decide) S25.1 rfl (pc' := 117) rfl (fun r27 => ?_)
  obtain ⟨r27a, r27b⟩ := r27
  have e114 : mI h24 b 1 = aW A := by rw [wh24, if_neg (by omega), wh20, if_neg (by omega), wh16, if_neg (by omega), wh12, if_neg (by omega), wh9, if_neg (by omega), wh6, if_pos ⟨rfl, rfl⟩, wh2, if_neg (by omega), hR.1.2.2.2.1]
  refine X.copy dX0_become_117 wd_171 wd_173 wd_172 wd_30 S26.2.2.2.2.2.2.1.2 S25.2.2.2.2.2.2.1.2 (by omega) (by omega) (by omega) (by omega) (by omega) (by decide) (by decide) rfl ⟨Nat.le_of_ble_eq_true rfl, Nat.le_of_ble_eq_true rfl⟩ (pc' := 120) rfl ?_
  refine X.genH (fun h28 hh28 => ?_)
  have wh28 : ∀ (a : Nat) (j : Int), mI h28 a j = if a = (b + 6) ∧ 0 ≤ j ∧ j < 0 + mI h24 b 1 then mI h24 (o + 6) (0 + (j - 0)) else mI h24 a j := fun _ _ => by rw [hh28]; rfl
  have S29 : ChS h28 b := by rw [hh28]; exact S25
  have S30 : ChS h28 o := by rw [hh28]; exact S26
  refine X.aload_n (i := 1) rfl rfl dX0_become_120 (pc' := 121) rfl ?_
  refine X.getR fk_X0_41 xcl_0 dX0_become_121 S30.1 S30.2.2.2.2.2.2.2.2.2.2.1.1 (pc' := 124) rfl ?_
  refine X.iconst dX0_become_124 (pc' := 125) rfl ?_
  refine X.aload_n (i := 0) rfl rfl dX0_become_125 (pc' := 126) rfl ?_
  refine X.getR fk_X0_41 xcl_0 dX0_become_126 S29.1 S29.2.2.2.2.2.2.2.2.2.2.1.1 (pc' := 129) rfl ?_
  refine X.iconst dX0_become_129 (pc' := 130) rfl ?_
  refine X.aload_n (i := 0) rfl rfl dX0_become_130 (pc' := 131) rfl ?_
  refine X.getR fk_X0_41 xcl_0 dX0_become_131 S29.1 S29.2.2.2.2.2.2.2.2.2.2.1.1 (pc' := 134) rfl ?_
  refine X.alen dX0_become_134 S29.2.2.2.2.2.2.2.2.2.2.1.2 rfl (pc' := 135) rfl ?_
  refine X.copy dX0_become_135 wd_171 wd_173 wd_172 wd_30 S30.2.2.2.2.2.2.2.2.2.2.1.2 S29.2.2.2.2.2.2.2.2.2.2.1.2 (by omega) (by omega) (by omega) (by omega) (by omega) (by decide) (by decide) rfl ⟨Nat.le_of_ble_eq_true rfl, Nat.le_of_ble_eq_true rfl⟩ (pc' := 138) rfl ?_
  refine X.genH (fun h31 hh31 => ?_)
  have wh31 : ∀ (a : Nat) (j : Int), mI h31 a j = if a = (b + 28) ∧ 0 ≤ j ∧ j < 0 + 60 then mI h28 (o + 28) (0 + (j - 0)) else mI h28 a j := fun _ _ => by rw [hh31]; rfl
  have S32 : ChS h31 b := by rw [hh31]; exact S29
  have S33 : ChS h31 o := by rw [hh31]; exact S30
  refine X.iconst dX0_become_138 (pc' := 139) rfl ?_
  refine X.istore_n (i := 2) (ls' := [some (rf b), some (rf o), some (vi 0)]) (hi := rfl) (hd := dX0_become_139) (by decide) rfl rfl (pc' := 140) rfl ?_
  have L140 : ∀ (n140 : Nat) (g : xM) (s : Int), (6 - s).toNat < n140 → (0 ≤ s ∧ s ≤ 6 ∧ Fr h g b ∧ mI g b 0 = aB A ∧ mI g b 1 = aW A ∧ (∀ j, 0 ≤ j → j < 6 → mI g (b + 1) j = aWl A j) ∧ (∀ j, 0 ≤ j → j < 3 → mI g (b + 2) j = aSt A j) ∧ (∀ j, 0 ≤ j → j < aW A → mI g (b + 3) j = aSe A j) ∧ (∀ j, 0 ≤ j → j < aW A → mI g (b + 4) j = aWo A j) ∧ (∀ j, 0 ≤ j → j < aW A → mI g (b + 5) j = aMa A j) ∧ (∀ j, 0 ≤ j → j < aW A → mI g (b + 6) j = aAt A j) ∧ (∀ j, 0 ≤ j → j < 60 → mI g (b + 28) j = msg A j) ∧ (∀ q n, 0 ≤ q → q < s → 0 ≤ n → n < aW A → mI g (b + 8 + q.toNat) n = aCo A q n ∧ mI g (b + 15 + q.toNat) n = fh A q n) ∧ (∀ q k, 0 ≤ q → q < s → 0 ≤ k → k < aB A → mI g (b + 22 + q.toNat) k = aHe A q k)) → X Ω RX0 cX0_become 3 none false rm_X0_become PR xNo 0 0 140 [some (rf b), some (rf o), some (vi s)] [] g := by
    intro n140
    induction n140 with
    | zero => intro g s hm _; exfalso; omega
    | succ n140 ih140 =>
      intro g s hm140 hinv
      obtain ⟨hs0, hs6, hF, hbt, hw, k0, k1, k2, k3, k4, k5, k6, kc, kh⟩ := hinv
      have hCb : ChS g b := hC.eq hF.2.1 hF.2.2.1
      have hCo : ChS g o := hR.1.1.eq hF.2.1 hF.2.2.1
      refine X.iload_n (i := 2) rfl rfl dX0_become_140 (pc' := 141) rfl ?_
      refine X.bipush (by decide +kernel) dX0_become_141 (pc' := 143) rfl ?_
      refine X.icmp_ge (tgt := 215) dX0_become_143 ⟨by omega, by omega⟩ ⟨by omega, by omega⟩ (by decide) (pc' := 146) rfl (fun c143 => ?_) (fun c143 => ?_)
      · refine X.vret dX0_become_215 rfl (Nat.le_of_ble_eq_true rfl) (Nat.le_of_ble_eq_true rfl) ?_
        subst hPR
        have e : s = 6 := by omega
        subst e
        exact ⟨rfl, ⟨⟨hCb, hR.1.2.1, hbt, hw, k0, k1, k2, k3, k4, k5, fun q n z1 z2 z3 z4 => (kc q n z1 z2 z3 z4).1⟩, fun q n z1 z2 z3 z4 => (kc q n z1 z2 z3 z4).2, kh, k6⟩, hF⟩
      · refine X.aload_n (i := 1) rfl rfl dX0_become_146 (pc' := 147) rfl ?_
        refine X.getR fk_X0_32 xcl_0 dX0_become_147 hCo.1 hCo.2.2.2.2.2.2.2.1.1 (pc' := 150) rfl ?_
        refine X.iload_n (i := 2) rfl rfl dX0_become_150 (pc' := 151) rfl ?_
        refine X.aald13 dX0_become_151 hCo.2.2.2.2.2.2.2.1.2 (by omega) (by omega) ⟨by omega, by omega⟩ (hCo.2.2.2.2.2.2.2.2.2.2.2.1 (s) (by omega) (by omega)).1 (pc' := 152) rfl ?_
        refine X.iconst dX0_become_152 (pc' := 153) rfl ?_
        refine X.aload_n (i := 0) rfl rfl dX0_become_153 (pc' := 154) rfl ?_
        refine X.getR fk_X0_32 xcl_0 dX0_become_154 hCb.1 hCb.2.2.2.2.2.2.2.1.1 (pc' := 157) rfl ?_
        refine X.iload_n (i := 2) rfl rfl dX0_become_157 (pc' := 158) rfl ?_
        refine X.aald13 dX0_become_158 hCb.2.2.2.2.2.2.2.1.2 (by omega) (by omega) ⟨by omega, by omega⟩ (hCb.2.2.2.2.2.2.2.2.2.2.2.1 (s) (by omega) (by omega)).1 (pc' := 159) rfl ?_
        refine X.iconst dX0_become_159 (pc' := 160) rfl ?_
        refine X.aload_n (i := 0) rfl rfl dX0_become_160 (pc' := 161) rfl ?_
        refine X.getI (x := mI g b 1) fk_X0_48 xcl_0 dX0_become_161 (by decide) hCb.1 rfl (pc' := 164) rfl (fun r34 => ?_)
        obtain ⟨r34a, r34b⟩ := r34
        have e164 : mI g b 1 = aW A := hw
        refine X.copy dX0_become_164 wd_171 wd_173 wd_172 wd_30 (hCo.2.2.2.2.2.2.2.2.2.2.2.1 (s) (by omega) (by omega)).2 (hCb.2.2.2.2.2.2.2.2.2.2.2.1 (s) (by omega) (by omega)).2 (by omega) (by omega) (by omega) (by omega) (by omega) (by decide) (by decide) rfl ⟨Nat.le_of_ble_eq_true rfl, Nat.le_of_ble_eq_true rfl⟩ (pc' := 167) rfl ?_
        refine X.genH (fun h35 hh35 => ?_)
        have wh35 : ∀ (a : Nat) (j : Int), mI h35 a j = if a = (b + 8 + (s).toNat) ∧ 0 ≤ j ∧ j < 0 + mI g b 1 then mI g (o + 8 + (s).toNat) (0 + (j - 0)) else mI g a j := fun _ _ => by rw [hh35]; rfl
        have S36 : ChS h35 b := by rw [hh35]; exact hCb
        have S37 : ChS h35 o := by rw [hh35]; exact hCo
        refine X.aload_n (i := 1) rfl rfl dX0_become_167 (pc' := 168) rfl ?_
        refine X.getR fk_X0_35 xcl_0 dX0_become_168 S37.1 S37.2.2.2.2.2.2.2.2.1.1 (pc' := 171) rfl ?_
        refine X.iload_n (i := 2) rfl rfl dX0_become_171 (pc' := 172) rfl ?_
        refine X.aald13 dX0_become_172 S37.2.2.2.2.2.2.2.2.1.2 (by omega) (by omega) ⟨by omega, by omega⟩ (S37.2.2.2.2.2.2.2.2.2.2.2.2.1 (s) (by omega) (by omega)).1 (pc' := 173) rfl ?_
        refine X.iconst dX0_become_173 (pc' := 174) rfl ?_
        refine X.aload_n (i := 0) rfl rfl dX0_become_174 (pc' := 175) rfl ?_
        refine X.getR fk_X0_35 xcl_0 dX0_become_175 S36.1 S36.2.2.2.2.2.2.2.2.1.1 (pc' := 178) rfl ?_
        refine X.iload_n (i := 2) rfl rfl dX0_become_178 (pc' := 179) rfl ?_
        refine X.aald13 dX0_become_179 S36.2.2.2.2.2.2.2.2.1.2 (by omega) (by omega) ⟨by omega, by omega⟩ (S36.2.2.2.2.2.2.2.2.2.2.2.2.1 (s) (by omega) (by omega)).1 (pc' := 180) rfl ?_
        refine X.iconst dX0_become_180 (pc' := 181) rfl ?_
        refine X.aload_n (i := 0) rfl rfl dX0_become_181 (pc' := 182) rfl ?_
        refine X.getI (x := mI h35 b 1) fk_X0_48 xcl_0 dX0_become_182 (by decide) S36.1 rfl (pc' := 185) rfl (fun r38 => ?_)
        obtain ⟨r38a, r38b⟩ := r38
        have e185 : mI h35 b 1 = aW A := by rw [wh35, if_neg (by omega), hw]
        refine X.copy dX0_become_185 wd_171 wd_173 wd_172 wd_30 (S37.2.2.2.2.2.2.2.2.2.2.2.2.1 (s) (by omega) (by omega)).2 (S36.2.2.2.2.2.2.2.2.2.2.2.2.1 (s) (by omega) (by omega)).2 (by omega) (by omega) (by omega) (by omega) (by omega) (by decide) (by decide) rfl ⟨Nat.le_of_ble_eq_true rfl, Nat.le_of_ble_eq_true rfl⟩ (pc' := 188) rfl ?_
        refine X.genH (fun h39 hh39 => ?_)
        have wh39 : ∀ (a : Nat) (j : Int), mI h39 a j = if a = (b + 15 + (s).toNat) ∧ 0 ≤ j ∧ j < 0 + mI h35 b 1 then mI h35 (o + 15 + (s).toNat) (0 + (j - 0)) else mI h35 a j := fun _ _ => by rw [hh39]; rfl
        have S40 : ChS h39 b := by rw [hh39]; exact S36
        have S41 : ChS h39 o := by rw [hh39]; exact S37
        refine X.aload_n (i := 1) rfl rfl dX0_become_188 (pc' := 189) rfl ?_
        refine X.getR fk_X0_38 xcl_0 dX0_become_189 S41.1 S41.2.2.2.2.2.2.2.2.2.1.1 (pc' := 192) rfl ?_
        refine X.iload_n (i := 2) rfl rfl dX0_become_192 (pc' := 193) rfl ?_
        refine X.aald13 dX0_become_193 S41.2.2.2.2.2.2.2.2.2.1.2 (by omega) (by omega) ⟨by omega, by omega⟩ (S41.2.2.2.2.2.2.2.2.2.2.2.2.2 (s) (by omega) (by omega)).1 (pc' := 194) rfl ?_
        refine X.iconst dX0_become_194 (pc' := 195) rfl ?_
        refine X.aload_n (i := 0) rfl rfl dX0_become_195 (pc' := 196) rfl ?_
        refine X.getR fk_X0_38 xcl_0 dX0_become_196 S40.1 S40.2.2.2.2.2.2.2.2.2.1.1 (pc' := 199) rfl ?_
        refine X.iload_n (i := 2) rfl rfl dX0_become_199 (pc' := 200) rfl ?_
        refine X.aald13 dX0_become_200 S40.2.2.2.2.2.2.2.2.2.1.2 (by omega) (by omega) ⟨by omega, by omega⟩ (S40.2.2.2.2.2.2.2.2.2.2.2.2.2 (s) (by omega) (by omega)).1 (pc' := 201) rfl ?_
        refine X.iconst dX0_become_201 (pc' := 202) rfl ?_
        refine X.aload_n (i := 0) rfl rfl dX0_become_202 (pc' := 203) rfl ?_
        refine X.getI (x := mI h39 b 0) fk_X0_44 xcl_0 dX0_become_203 (by decide) S40.1 rfl (pc' := 206) rfl (fun r42 => ?_)
        obtain ⟨r42a, r42b⟩ := r42
        have e206 : mI h39 b 0 = aB A := by rw [wh39, if_neg (by omega), wh35, if_neg (by omega), hbt]
        refine X.copy dX0_become_206 wd_171 wd_173 wd_172 wd_30 (S41.2.2.2.2.2.2.2.2.2.2.2.2.2 (s) (by omega) (by omega)).2 (S40.2.2.2.2.2.2.2.2.2.2.2.2.2 (s) (by omega) (by omega)).2 (by omega) (by omega) (by omega) (by omega) (by omega) (by decide) (by decide) rfl ⟨Nat.le_of_ble_eq_true rfl, Nat.le_of_ble_eq_true rfl⟩ (pc' := 209) rfl ?_
        refine X.genH (fun h43 hh43 => ?_)
        have wh43 : ∀ (a : Nat) (j : Int), mI h43 a j = if a = (b + 22 + (s).toNat) ∧ 0 ≤ j ∧ j < 0 + mI h39 b 0 then mI h39 (o + 22 + (s).toNat) (0 + (j - 0)) else mI h39 a j := fun _ _ => by rw [hh43]; rfl
        have S44 : ChS h43 b := by rw [hh43]; exact S40
        have S45 : ChS h43 o := by rw [hh43]; exact S41
        refine X.iinc (i := 2) (ls' := [some (rf b), some (rf o), some (vi (s + 1))]) dX0_become_209 rfl (by decide) rfl rfl (pc' := 212) rfl ?_
        refine X.goto (tgt := 140) dX0_become_212 (by decide) ?_
        refine ih140 h43 (s + 1) (by omega) ?_
        refine ⟨by omega, by omega, Fr.tr hF (Fr.of (g) (by rw [hh43, hh39, hh35]; rfl) (by rw [hh43, hh39, hh35]; rfl) (by rw [hh43, hh39, hh35]; rfl) (by rw [hh43, hh39, hh35]; rfl) (fun a ha => funext fun j => by rw [wh43, if_neg (by omega), wh39, if_neg (by omega), wh35, if_neg (by omega)])), by rw [wh43, if_neg (by omega), wh39, if_neg (by omega), wh35, if_neg (by omega), hbt], by rw [wh43, if_neg (by omega), wh39, if_neg (by omega), wh35, if_neg (by omega), hw], fun j z1 z2 => by rw [wh43, if_neg (by omega), wh39, if_neg (by omega), wh35, if_neg (by omega)]; exact k0 j z1 z2, fun j z1 z2 => by rw [wh43, if_neg (by omega), wh39, if_neg (by omega), wh35, if_neg (by omega)]; exact k1 j z1 z2, fun j z1 z2 => by rw [wh43, if_neg (by omega), wh39, if_neg (by omega), wh35, if_neg (by omega)]; exact k2 j z1 z2, fun j z1 z2 => by rw [wh43, if_neg (by omega), wh39, if_neg (by omega), wh35, if_neg (by omega)]; exact k3 j z1 z2, fun j z1 z2 => by rw [wh43, if_neg (by omega), wh39, if_neg (by omega), wh35, if_neg (by omega)]; exact k4 j z1 z2, fun j z1 z2 => by rw [wh43, if_neg (by omega), wh39, if_neg (by omega), wh35, if_neg (by omega)]; exact k5 j z1 z2, fun j z1 z2 => by rw [wh43, if_neg (by omega), wh39, if_neg (by omega), wh35, if_neg (by omega)]; exact k6 j z1 z2, fun q n z1 z2 z3 z4 => ?_, fun q k z1 z2 z3 z4 => ?_⟩
        · by_cases e1 : q = s
          · subst e1
            refine ⟨?_, ?_⟩
            · rw [wh43, if_neg (by omega), wh39, if_neg (by omega), wh35, if_pos ⟨rfl, by omega, by omega⟩, show (0 : Int) + (n - 0) = n by omega, hF.2.2.2.2 _ (by omega)]; exact hR.1.2.2.2.2.2.2.2.2.2.2 q n z1 (by omega) z3 z4
            · rw [wh43, if_neg (by omega), wh39, if_pos ⟨rfl, by omega, by omega⟩, show (0 : Int) + (n - 0) = n by omega, wh35, if_neg (by omega), hF.2.2.2.2 _ (by omega)]; exact hR.2.1 q n z1 (by omega) z3 z4
          · have := kc q n z1 (by omega) z3 z4
            exact ⟨by rw [wh43, if_neg (by omega), wh39, if_neg (by omega), wh35, if_neg (by omega)]; exact this.1, by rw [wh43, if_neg (by omega), wh39, if_neg (by omega), wh35, if_neg (by omega)]; exact this.2⟩
        · by_cases e1 : q = s
          · subst e1
            rw [wh43, if_pos ⟨rfl, by omega, by omega⟩, show (0 : Int) + (k - 0) = k by omega, wh39, if_neg (by omega), wh35, if_neg (by omega), hF.2.2.2.2 _ (by omega)]; exact hR.2.2.1 q k z1 (by omega) z3 z4
          · have := kh q k z1 (by omega) z3 z4
            rw [wh43, if_neg (by omega), wh39, if_neg (by omega), wh35, if_neg (by omega)]; exact this
  refine L140 _ h31 0 (Nat.lt_succ_self _) ?_
  exact ⟨by omega, by omega, Fr.of (h) (by rw [hh31, hh28, hh24, hh20, hh16, hh12, hh9, hh6, hh2]; rfl) (by rw [hh31, hh28, hh24, hh20, hh16, hh12, hh9, hh6, hh2]; rfl) (by rw [hh31, hh28, hh24, hh20, hh16, hh12, hh9, hh6, hh2]; rfl) (by rw [hh31, hh28, hh24, hh20, hh16, hh12, hh9, hh6, hh2]; rfl) (fun a ha => funext fun j => by rw [wh31, if_neg (by omega), wh28, if_neg (by omega), wh24, if_neg (by omega), wh20, if_neg (by omega), wh16, if_neg (by omega), wh12, if_neg (by omega), wh9, if_neg (by omega), wh6, if_neg (by omega), wh2, if_neg (by omega)]), by rw [wh31, if_neg (by omega), wh28, if_neg (by omega), wh24, if_neg (by omega), wh20, if_neg (by omega), wh16, if_neg (by omega), wh12, if_neg (by omega), wh9, if_neg (by omega), wh6, if_neg (by omega), wh2, if_pos ⟨rfl, rfl⟩]; exact e5, by rw [wh31, if_neg (by omega), wh28, if_neg (by omega), wh24, if_neg (by omega), wh20, if_neg (by omega), wh16, if_neg (by omega), wh12, if_neg (by omega), wh9, if_neg (by omega), wh6, if_pos ⟨rfl, rfl⟩]; exact e13, fun j z1 z2 => by rw [wh31, if_neg (by omega), wh28, if_neg (by omega), wh24, if_neg (by omega), wh20, if_neg (by omega), wh16, if_neg (by omega), wh12, if_neg (by omega), wh9, if_pos ⟨rfl, by omega, by omega⟩, show (0 : Int) + (j - 0) = j by omega, wh6, if_neg (by omega), wh2, if_neg (by omega)]; exact hR.1.2.2.2.2.1 j z1 z2, fun j z1 z2 => by rw [wh31, if_neg (by omega), wh28, if_neg (by omega), wh24, if_neg (by omega), wh20, if_neg (by omega), wh16, if_neg (by omega), wh12, if_pos ⟨rfl, by omega, by omega⟩, show (0 : Int) + (j - 0) = j by omega, wh9, if_neg (by omega), wh6, if_neg (by omega), wh2, if_neg (by omega)]; exact hR.1.2.2.2.2.2.1 j z1 z2, fun j z1 z2 => by rw [wh31, if_neg (by omega), wh28, if_neg (by omega), wh24, if_neg (by omega), wh20, if_neg (by omega), wh16, if_pos ⟨rfl, by omega, by omega⟩, show (0 : Int) + (j - 0) = j by omega, wh12, if_neg (by omega), wh9, if_neg (by omega), wh6, if_neg (by omega), wh2, if_neg (by omega)]; exact hR.1.2.2.2.2.2.2.1 j z1 z2, fun j z1 z2 => by rw [wh31, if_neg (by omega), wh28, if_neg (by omega), wh24, if_neg (by omega), wh20, if_pos ⟨rfl, by omega, by omega⟩, show (0 : Int) + (j - 0) = j by omega, wh16, if_neg (by omega), wh12, if_neg (by omega), wh9, if_neg (by omega), wh6, if_neg (by omega), wh2, if_neg (by omega)]; exact hR.1.2.2.2.2.2.2.2.1 j z1 z2, fun j z1 z2 => by rw [wh31, if_neg (by omega), wh28, if_neg (by omega), wh24, if_pos ⟨rfl, by omega, by omega⟩, show (0 : Int) + (j - 0) = j by omega, wh20, if_neg (by omega), wh16, if_neg (by omega), wh12, if_neg (by omega), wh9, if_neg (by omega), wh6, if_neg (by omega), wh2, if_neg (by omega)]; exact hR.1.2.2.2.2.2.2.2.2.1 j z1 z2, fun j z1 z2 => by rw [wh31, if_neg (by omega), wh28, if_pos ⟨rfl, by omega, by omega⟩, show (0 : Int) + (j - 0) = j by omega, wh24, if_neg (by omega), wh20, if_neg (by omega), wh16, if_neg (by omega), wh12, if_neg (by omega), wh9, if_neg (by omega), wh6, if_neg (by omega), wh2, if_neg (by omega)]; exact hR.1.2.2.2.2.2.2.2.2.2.1 j z1 z2, fun j z1 z2 => by rw [wh31, if_pos ⟨rfl, by omega, by omega⟩, show (0 : Int) + (j - 0) = j by omega, wh28, if_neg (by omega), wh24, if_neg (by omega), wh20, if_neg (by omega), wh16, if_neg (by omega), wh12, if_neg (by omega), wh9, if_neg (by omega), wh6, if_neg (by omega), wh2, if_neg (by omega)]; exact hR.2.2.2 j z1 z2, fun q n z1 z2 => by omega, fun q k z1 z2 => by omega⟩
