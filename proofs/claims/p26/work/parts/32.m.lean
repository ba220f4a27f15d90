set_option maxHeartbeats 4000000 in
set_option maxRecDepth 100000 in
theorem k_X0_speak {Ω : xO} {h : xM} {b : Nat} {A : aS} {s w m : Int} (hR : RC h b A) (hp : aPast A) (hB : aB A < 400) (hW : aW A < 200) (hs : 0 ≤ s ∧ s < 6) (hw : 1 ≤ w ∧ w ≤ 99) (hm : -1 ≤ m ∧ m ≤ 9) : xCt Ω yX0_speak cX0_speak 7 (some .int) rm_X0_speak [rf b, vi s, vi w, vi m] h (fun q h' => q = some (vi (aW A)) ∧ RC h' b (aEnd (aAdd A s w m)) ∧ Fr h h' b) xNo := by
  refine xCt_of (ini := false) (by decide +kernel) (Nat.le_of_ble_eq_true rfl) (fun q => absurd q (by decide)) ?_
  generalize hPR : (fun q h' => q = some (vi (aW A)) ∧ RC h' b (aEnd (aAdd A s w m)) ∧ Fr h h' b : Option xV → xM → Prop) = PR
  have K0 : X Ω RX0 cX0_speak 7 (some .int) false rm_X0_speak PR xNo 0 0 0 [some (rf b), some (vi s), some (vi w), some (vi m), none, none, none] [] h := ?_
  exact K0
  obtain ⟨okB, okN, okWl, okS, okW, okM, okC, okH⟩ := id hR.1.2.1
  have okA : aOK A := hR.1.2.1
  have hR0 := hR.1
  refine X.aload_n (i := 0) rfl rfl dX0_speak_0 (pc' := 1) rfl ?_
  refine X.getI (x := aW A) fk_X0_48 xcl_0 dX0_speak_1 (by decide) hR.1.1.1 hR.1.2.2.2.1 (pc' := 4) rfl (fun r1 => ?_)
  obtain ⟨r1a, r1b⟩ := r1
  refine X.istore (i := 4) (ls' := [some (rf b), some (vi s), some (vi w), some (vi m), some (vi (aW A)), none, none]) (hd := dX0_speak_4) (by decide) rfl rfl (pc' := 6) rfl ?_
  refine X.aload_n (i := 0) rfl rfl dX0_speak_6 (pc' := 7) rfl ?_
  refine X.getR fk_X0_18 xcl_0 dX0_speak_7 hR.1.1.1 hR.1.1.2.2.2.1.1 (pc' := 10) rfl ?_
  refine X.iload (i := 4) rfl dX0_speak_10 (pc' := 12) rfl ?_
  refine X.iload_n (i := 1) rfl rfl dX0_speak_12 (pc' := 13) rfl ?_
  refine X.iast dX0_speak_13 hR.1.1.2.2.2.1.2 (by omega) (by omega) ⟨by omega, by omega⟩ ⟨by omega, by omega⟩ (pc' := 14) rfl ?_
  refine X.genH (fun h2 hh2 => ?_)
  have wh2 : ∀ (a : Nat) (j : Int), mI h2 a j = if a = (b + 3) ∧ j = aW A then s else mI h a j := fun _ _ => by rw [hh2]; rfl
  have S3 : R0 h2 b A := R0_keep2 hR.1 (by rw [hh2]; rfl) (by rw [hh2]; rfl) (fun a j _ _ _ => by rw [wh2, if_neg (by omega)])
  refine X.aload_n (i := 0) rfl rfl dX0_speak_14 (pc' := 15) rfl ?_
  refine X.getR fk_X0_21 xcl_0 dX0_speak_15 S3.1.1 S3.1.2.2.2.2.1.1 (pc' := 18) rfl ?_
  refine X.iload (i := 4) rfl dX0_speak_18 (pc' := 20) rfl ?_
  refine X.iload_n (i := 2) rfl rfl dX0_speak_20 (pc' := 21) rfl ?_
  refine X.iast dX0_speak_21 S3.1.2.2.2.2.1.2 (by omega) (by omega) ⟨by omega, by omega⟩ ⟨by omega, by omega⟩ (pc' := 22) rfl ?_
  refine X.genH (fun h4 hh4 => ?_)
  have wh4 : ∀ (a : Nat) (j : Int), mI h4 a j = if a = (b + 4) ∧ j = aW A then w else mI h2 a j := fun _ _ => by rw [hh4]; rfl
  have S5 : R0 h4 b A := R0_keep2 S3 (by rw [hh4]; rfl) (by rw [hh4]; rfl) (fun a j _ _ _ => by rw [wh4, if_neg (by omega)])
  refine X.aload_n (i := 0) rfl rfl dX0_speak_22 (pc' := 23) rfl ?_
  refine X.getR fk_X0_24 xcl_0 dX0_speak_23 S5.1.1 S5.1.2.2.2.2.2.1.1 (pc' := 26) rfl ?_
  refine X.iload (i := 4) rfl dX0_speak_26 (pc' := 28) rfl ?_
  refine X.iload_n (i := 3) rfl rfl dX0_speak_28 (pc' := 29) rfl ?_
  refine X.iast dX0_speak_29 S5.1.2.2.2.2.2.1.2 (by omega) (by omega) ⟨by omega, by omega⟩ ⟨by omega, by omega⟩ (pc' := 30) rfl ?_
  refine X.genH (fun h6 hh6 => ?_)
  have wh6 : ∀ (a : Nat) (j : Int), mI h6 a j = if a = (b + 5) ∧ j = aW A then m else mI h4 a j := fun _ _ => by rw [hh6]; rfl
  have S7 : R0 h6 b A := R0_keep2 S5 (by rw [hh6]; rfl) (by rw [hh6]; rfl) (fun a j _ _ _ => by rw [wh6, if_neg (by omega)])
  refine X.aload_n (i := 0) rfl rfl dX0_speak_30 (pc' := 31) rfl ?_
  refine X.getR fk_X0_27 xcl_0 dX0_speak_31 S7.1.1 S7.1.2.2.2.2.2.2.1.1 (pc' := 34) rfl ?_
  refine X.iload (i := 4) rfl dX0_speak_34 (pc' := 36) rfl ?_
  refine X.aload_n (i := 0) rfl rfl dX0_speak_36 (pc' := 37) rfl ?_
  refine X.getI (x := aB A) fk_X0_44 xcl_0 dX0_speak_37 (by decide) S7.1.1 S7.2.2.1 (pc' := 40) rfl (fun r8 => ?_)
  obtain ⟨r8a, r8b⟩ := r8
  refine X.iast dX0_speak_40 S7.1.2.2.2.2.2.2.1.2 (by omega) (by omega) ⟨by omega, by omega⟩ ⟨by omega, by omega⟩ (pc' := 41) rfl ?_
  refine X.genH (fun h9 hh9 => ?_)
  have wh9 : ∀ (a : Nat) (j : Int), mI h9 a j = if a = (b + 6) ∧ j = aW A then aB A else mI h6 a j := fun _ _ => by rw [hh9]; rfl
  have S10 : R0 h9 b A := R0_keep2 S7 (by rw [hh9]; rfl) (by rw [hh9]; rfl) (fun a j _ _ _ => by rw [wh9, if_neg (by omega)])
  refine X.iconst dX0_speak_41 (pc' := 42) rfl ?_
  refine X.istore (i := 5) (ls' := [some (rf b), some (vi s), some (vi w), some (vi m), some (vi (aW A)), some (vi 0), none]) (hd := dX0_speak_42) (by decide) rfl rfl (pc' := 44) rfl ?_
  have L44 : ∀ (n44 : Nat) (g : xM) (t : Int), (6 - t).toNat < n44 → (0 ≤ t ∧ t ≤ 6 ∧ R0 g b A ∧ Fr h g b ∧ (∀ a j, (a < b + 3 ∨ j ≠ aW A ∨ b + 22 ≤ a) → mI g a j = mI h a j) ∧ (mI g (b + 3) (aW A) = s ∧ mI g (b + 4) (aW A) = w ∧ mI g (b + 5) (aW A) = m ∧ mI g (b + 6) (aW A) = aB A) ∧ (∀ q, 0 ≤ q → q < t → mI g (b + 8 + q.toNat) (aW A) = (if dly A s q = -1 then -1 else aB A + dly A s q) ∧ mI g (b + 15 + q.toNat) (aW A) = -1)) → X Ω RX0 cX0_speak 7 (some .int) false rm_X0_speak PR xNo 0 0 44 [some (rf b), some (vi s), some (vi w), some (vi m), some (vi (aW A)), some (vi t), none] [] g := by
    intro n44
    induction n44 with
    | zero => intro g t hm _; exfalso; omega
    | succ n44 ih44 =>
      intro g t hm44 hinv
      obtain ⟨ht0, ht6, hRg, hF, hO, hv, hc⟩ := hinv
      refine X.iload (i := 5) rfl dX0_speak_44 (pc' := 46) rfl ?_
      refine X.bipush (by decide +kernel) dX0_speak_46 (pc' := 48) rfl ?_
      refine X.icmp_ge (tgt := 104) dX0_speak_48 ⟨by omega, by omega⟩ ⟨by omega, by omega⟩ (by decide) (pc' := 51) rfl (fun c48 => ?_) (fun c48 => ?_)
      · refine X.iload_n (i := 3) rfl rfl dX0_speak_104 (pc' := 105) rfl ?_
        refine X.iconst dX0_speak_105 (pc' := 106) rfl ?_
        refine X.icmp_eq (tgt := 123) dX0_speak_106 ⟨by omega, by omega⟩ ⟨by omega, by omega⟩ (by decide) (pc' := 109) rfl (fun c106 => ?_) (fun c106 => ?_)
        · refine X.aload_n (i := 0) rfl rfl dX0_speak_123 (pc' := 124) rfl ?_
          refine X.dup rfl dX0_speak_124 (pc' := 125) rfl ?_
          refine X.getI (x := aW A) fk_X0_48 xcl_0 dX0_speak_125 (by decide) hRg.1.1 hRg.2.2.2.1 (pc' := 128) rfl (fun r11 => ?_)
          obtain ⟨r11a, r11b⟩ := r11
          refine X.iconst dX0_speak_128 (pc' := 129) rfl ?_
          refine X.iadd dX0_speak_129 (pc' := 130) rfl ?_
          refine X.putI fk_X0_48 xcl_0 ⟨_, rfl, Or.inl rfl⟩ dX0_speak_130 (Or.inl rfl) ⟨by omega, by omega⟩ hRg.1.1 (pc' := 133) rfl ?_
          refine X.genH (fun h12 hh12 => ?_)
          have wh12 : ∀ (a : Nat) (j : Int), mI h12 a j = if a = b ∧ j = 1 then (aW A) + 1 else mI g a j := fun _ _ => by rw [hh12]; rfl
          have S13 : ChS h12 b := by rw [hh12]; exact hRg.1
          refine X.aload_n (i := 0) rfl rfl dX0_speak_133 (pc' := 134) rfl ?_
          have ht : t = 6 := by omega
          subst ht
          have hF2 : Fr h h12 b := by rw [hh12]; exact Fr.w (hF) ⟨by omega, by omega⟩
          have hRA : RC h12 b (aAdd A s w m) := RC_add hR hp hW hs hw hm hF2.2.1 hF2.2.2.1 (by rw [wh12, if_neg (by omega), hRg.2.2.1]) (by rw [wh12, if_pos ⟨rfl, rfl⟩]) (fun a j z1 z2 z3 => by rw [wh12, if_neg (by omega), hO a j (by omega)]) ⟨by rw [wh12, if_neg (by omega), hv.1], by rw [wh12, if_neg (by omega), hv.2.1], by rw [wh12, if_neg (by omega), hv.2.2.1], by rw [wh12, if_neg (by omega), hv.2.2.2]⟩ (fun q z1 z2 => ⟨by rw [wh12, if_neg (by omega), (hc q z1 z2).1], by rw [wh12, if_neg (by omega), (hc q z1 z2).2]⟩) (fun p z1 z2 => by rw [wh12, if_neg (by omega), hO (b + 28) _ (by omega), if_neg (by omega)]; omega)
          refine X.callV (ci := 0) (a := b) (rm := rm_X0_endBeat) (As := []) (st := []) dX0_speak_134 ck_X0_64 rfl (by decide) S13.1 rfl rfl ⟨Nat.le_of_ble_eq_true rfl, Nat.le_of_ble_eq_true rfl⟩ (Nat.le_of_ble_eq_true rfl) (Nat.le_of_ble_eq_true rfl) (Nat.le_of_ble_eq_true rfl) (pc' := 137) rfl (k_X0_endBeat hRA (show aB A < 400 by omega)) (fun q14 hq14 eq14 => ?_) (fun _ _ x1 => x1.elim)
          obtain ⟨rfl, hRE, hFE⟩ := eq14
          refine X.iload (i := 4) rfl dX0_speak_137 (pc' := 139) rfl ?_
          refine X.iret dX0_speak_139 (Or.inl rfl) (Nat.le_of_ble_eq_true rfl) (Nat.le_of_ble_eq_true rfl) ?_
          subst hPR
          exact ⟨rfl, hRE, Fr.tr hF2 hFE⟩
        · refine X.aload_n (i := 0) rfl rfl dX0_speak_109 (pc' := 110) rfl ?_
          refine X.getR fk_X0_41 xcl_0 dX0_speak_110 hRg.1.1 hRg.1.2.2.2.2.2.2.2.2.2.2.1.1 (pc' := 113) rfl ?_
          refine X.iload_n (i := 1) rfl rfl dX0_speak_113 (pc' := 114) rfl ?_
          refine X.iload_n (i := 3) rfl rfl dX0_speak_114 (pc' := 115) rfl ?_
          refine X.callS (rm := rm_X0_messagePlace) (As := [vi s, vi m]) (st := [rf ((b + 28))]) dX0_speak_115 ck_X0_61 rfl rfl ⟨Nat.le_of_ble_eq_true rfl, Nat.le_of_ble_eq_true rfl⟩ (Nat.le_of_ble_eq_true rfl) (Nat.le_of_ble_eq_true rfl) (Nat.le_of_ble_eq_true rfl) (pc' := 118) rfl (k_X0_messagePlace ) (fun q15 hq15 eq15 => ?_) (fun _ _ x1 => x1.elim)
          obtain ⟨rfl, pl, rfl, hpl⟩ := eq15
          refine X.dup2 rfl rfl dX0_speak_118 (pc' := 119) rfl ?_
          refine X.iald (x := mI g ((b + 28)) pl) dX0_speak_119 hRg.1.2.2.2.2.2.2.2.2.2.2.1.2 (by omega) (by omega) ⟨by omega, by omega⟩ rfl (pc' := 120) rfl (fun r16 => ?_)
          obtain ⟨r16a, r16b⟩ := r16
          have hmr : mI g (b + 28) pl = msg A pl := by rw [hO (b + 28) _ (by omega)]; exact hR.2.2.2 pl (by omega) (by omega)
          have hmr2 := msg_rng okA pl
          refine X.iconst dX0_speak_120 (pc' := 121) rfl ?_
          refine X.iadd dX0_speak_121 (pc' := 122) rfl ?_
          refine X.iast dX0_speak_122 hRg.1.2.2.2.2.2.2.2.2.2.2.1.2 (by omega) (by omega) ⟨by omega, by omega⟩ ⟨by omega, by omega⟩ (pc' := 123) rfl ?_
          refine X.genH (fun h17 hh17 => ?_)
          have wh17 : ∀ (a : Nat) (j : Int), mI h17 a j = if a = (b + 28) ∧ j = pl then (mI g ((b + 28)) pl) + 1 else mI g a j := fun _ _ => by rw [hh17]; rfl
          have S18 : R0 h17 b A := R0_keep2 hRg (by rw [hh17]; rfl) (by rw [hh17]; rfl) (fun a j _ _ _ => by rw [wh17, if_neg (by omega)])
          refine X.aload_n (i := 0) rfl rfl dX0_speak_123 (pc' := 124) rfl ?_
          refine X.dup rfl dX0_speak_124 (pc' := 125) rfl ?_
          refine X.getI (x := aW A) fk_X0_48 xcl_0 dX0_speak_125 (by decide) S18.1.1 S18.2.2.2.1 (pc' := 128) rfl (fun r19 => ?_)
          obtain ⟨r19a, r19b⟩ := r19
          refine X.iconst dX0_speak_128 (pc' := 129) rfl ?_
          refine X.iadd dX0_speak_129 (pc' := 130) rfl ?_
          refine X.putI fk_X0_48 xcl_0 ⟨_, rfl, Or.inl rfl⟩ dX0_speak_130 (Or.inl rfl) ⟨by omega, by omega⟩ S18.1.1 (pc' := 133) rfl ?_
          refine X.genH (fun h20 hh20 => ?_)
          have wh20 : ∀ (a : Nat) (j : Int), mI h20 a j = if a = b ∧ j = 1 then (aW A) + 1 else mI h17 a j := fun _ _ => by rw [hh20]; rfl
          have S21 : ChS h20 b := by rw [hh20]; exact S18.1
          refine X.aload_n (i := 0) rfl rfl dX0_speak_133 (pc' := 134) rfl ?_
          have ht : t = 6 := by omega
          subst ht
          have hF2 : Fr h h20 b := by rw [hh20, hh17]; exact Fr.w (Fr.w (hF) ⟨by omega, by omega⟩) ⟨by omega, by omega⟩
          have hRA : RC h20 b (aAdd A s w m) := RC_add hR hp hW hs hw hm hF2.2.1 hF2.2.2.1 (by rw [wh20, if_neg (by omega), wh17, if_neg (by omega), hRg.2.2.1]) (by rw [wh20, if_pos ⟨rfl, rfl⟩]) (fun a j z1 z2 z3 => by rw [wh20, if_neg (by omega), wh17, if_neg (by omega), hO a j (by omega)]) ⟨by rw [wh20, if_neg (by omega), wh17, if_neg (by omega), hv.1], by rw [wh20, if_neg (by omega), wh17, if_neg (by omega), hv.2.1], by rw [wh20, if_neg (by omega), wh17, if_neg (by omega), hv.2.2.1], by rw [wh20, if_neg (by omega), wh17, if_neg (by omega), hv.2.2.2]⟩ (fun q z1 z2 => ⟨by rw [wh20, if_neg (by omega), wh17, if_neg (by omega), (hc q z1 z2).1], by rw [wh20, if_neg (by omega), wh17, if_neg (by omega), (hc q z1 z2).2]⟩) (fun p z1 z2 => by
            by_cases y1 : p = pl
            · subst y1
              rw [wh20, if_neg (by omega), wh17, if_pos ⟨rfl, rfl⟩, if_pos (by omega), hO (b + 28) _ (by omega)]
            · rw [wh20, if_neg (by omega), wh17, if_neg (by omega), if_neg (by omega), hO (b + 28) _ (by omega)]; omega)
          refine X.callV (ci := 0) (a := b) (rm := rm_X0_endBeat) (As := []) (st := []) dX0_speak_134 ck_X0_64 rfl (by decide) S21.1 rfl rfl ⟨Nat.le_of_ble_eq_true rfl, Nat.le_of_ble_eq_true rfl⟩ (Nat.le_of_ble_eq_true rfl) (Nat.le_of_ble_eq_true rfl) (Nat.le_of_ble_eq_true rfl) (pc' := 137) rfl (k_X0_endBeat hRA (show aB A < 400 by omega)) (fun q22 hq22 eq22 => ?_) (fun _ _ x1 => x1.elim)
          obtain ⟨rfl, hRE, hFE⟩ := eq22
          refine X.iload (i := 4) rfl dX0_speak_137 (pc' := 139) rfl ?_
          refine X.iret dX0_speak_139 (Or.inl rfl) (Nat.le_of_ble_eq_true rfl) (Nat.le_of_ble_eq_true rfl) ?_
          subst hPR
          exact ⟨rfl, hRE, Fr.tr hF2 hFE⟩
      · refine X.aload_n (i := 0) rfl rfl dX0_speak_51 (pc' := 52) rfl ?_
        refine X.iload_n (i := 1) rfl rfl dX0_speak_52 (pc' := 53) rfl ?_
        refine X.iload (i := 5) rfl dX0_speak_53 (pc' := 55) rfl ?_
        refine X.callV (ci := 0) (a := b) (rm := rm_X0_delayBetween) (As := [vi s, vi t]) (st := []) dX0_speak_55 ck_X0_57 rfl (by decide) hRg.1.1 rfl rfl ⟨Nat.le_of_ble_eq_true rfl, Nat.le_of_ble_eq_true rfl⟩ (Nat.le_of_ble_eq_true rfl) (Nat.le_of_ble_eq_true rfl) (Nat.le_of_ble_eq_true rfl) (pc' := 58) rfl (k_X0_delayBetween hRg ⟨by omega, by omega⟩ ⟨by omega, by omega⟩) (fun q23 hq23 eq23 => ?_) (fun _ _ x1 => x1.elim)
        obtain ⟨rfl, dl, rfl, hdl⟩ := eq23
        have hdr := dly_rng okA hs ⟨ht0, (by omega : t < 6)⟩
        refine X.istore (i := 6) (ls' := [some (rf b), some (vi s), some (vi w), some (vi m), some (vi (aW A)), some (vi t), some (vi dl)]) (hd := dX0_speak_58) (by decide) rfl rfl (pc' := 60) rfl ?_
        have hdl : dl = dly A s t := hdl
        refine X.aload_n (i := 0) rfl rfl dX0_speak_60 (pc' := 61) rfl ?_
        refine X.getR fk_X0_32 xcl_0 dX0_speak_61 hRg.1.1 hRg.1.2.2.2.2.2.2.2.1.1 (pc' := 64) rfl ?_
        refine X.iload (i := 5) rfl dX0_speak_64 (pc' := 66) rfl ?_
        refine X.aald13 dX0_speak_66 hRg.1.2.2.2.2.2.2.2.1.2 (by omega) (by omega) ⟨by omega, by omega⟩ (hRg.1.2.2.2.2.2.2.2.2.2.2.2.1 (t) (by omega) (by omega)).1 (pc' := 67) rfl ?_
        refine X.iload (i := 4) rfl dX0_speak_67 (pc' := 69) rfl ?_
        refine X.iload (i := 6) rfl dX0_speak_69 (pc' := 71) rfl ?_
        refine X.iconst dX0_speak_71 (pc' := 72) rfl ?_
        refine X.icmp_ne (tgt := 79) dX0_speak_72 ⟨by omega, by omega⟩ ⟨by omega, by omega⟩ (by decide) (pc' := 75) rfl (fun c72 => ?_) (fun c72 => ?_)
        · refine X.aload_n (i := 0) rfl rfl dX0_speak_79 (pc' := 80) rfl ?_
          refine X.getI (x := aB A) fk_X0_44 xcl_0 dX0_speak_80 (by decide) hRg.1.1 hRg.2.2.1 (pc' := 83) rfl (fun r24 => ?_)
          obtain ⟨r24a, r24b⟩ := r24
          refine X.iload (i := 6) rfl dX0_speak_83 (pc' := 85) rfl ?_
          refine X.iadd dX0_speak_85 (pc' := 86) rfl ?_
          refine X.iast dX0_speak_86 (hRg.1.2.2.2.2.2.2.2.2.2.2.2.1 (t) (by omega) (by omega)).2 (by omega) (by omega) ⟨by omega, by omega⟩ ⟨by omega, by omega⟩ (pc' := 87) rfl ?_
          refine X.genH (fun h25 hh25 => ?_)
          have wh25 : ∀ (a : Nat) (j : Int), mI h25 a j = if a = (b + 8 + (t).toNat) ∧ j = aW A then (aB A) + dl else mI g a j := fun _ _ => by rw [hh25]; rfl
          have S26 : R0 h25 b A := R0_keep2 hRg (by rw [hh25]; rfl) (by rw [hh25]; rfl) (fun a j _ _ _ => by rw [wh25, if_neg (by omega)])
          refine X.aload_n (i := 0) rfl rfl dX0_speak_87 (pc' := 88) rfl ?_
          refine X.getR fk_X0_35 xcl_0 dX0_speak_88 S26.1.1 S26.1.2.2.2.2.2.2.2.2.1.1 (pc' := 91) rfl ?_
          refine X.iload (i := 5) rfl dX0_speak_91 (pc' := 93) rfl ?_
          refine X.aald13 dX0_speak_93 S26.1.2.2.2.2.2.2.2.2.1.2 (by omega) (by omega) ⟨by omega, by omega⟩ (S26.1.2.2.2.2.2.2.2.2.2.2.2.2.1 (t) (by omega) (by omega)).1 (pc' := 94) rfl ?_
          refine X.iload (i := 4) rfl dX0_speak_94 (pc' := 96) rfl ?_
          refine X.iconst dX0_speak_96 (pc' := 97) rfl ?_
          refine X.iast dX0_speak_97 (S26.1.2.2.2.2.2.2.2.2.2.2.2.2.1 (t) (by omega) (by omega)).2 (by omega) (by omega) ⟨by omega, by omega⟩ ⟨by omega, by omega⟩ (pc' := 98) rfl ?_
          refine X.genH (fun h27 hh27 => ?_)
          have wh27 : ∀ (a : Nat) (j : Int), mI h27 a j = if a = (b + 15 + (t).toNat) ∧ j = aW A then (-1) else mI h25 a j := fun _ _ => by rw [hh27]; rfl
          have S28 : R0 h27 b A := R0_keep2 S26 (by rw [hh27]; rfl) (by rw [hh27]; rfl) (fun a j _ _ _ => by rw [wh27, if_neg (by omega)])
          refine X.iinc (i := 5) (ls' := [some (rf b), some (vi s), some (vi w), some (vi m), some (vi (aW A)), some (vi (t + 1)), some (vi dl)]) dX0_speak_98 rfl (by decide) rfl rfl (pc' := 101) rfl ?_
          refine X.goto (tgt := 44) dX0_speak_101 (by decide) ?_
          refine X.mask (bs := [true, true, true, true, true, true, false]) (ls' := [some (rf b), some (vi s), some (vi w), some (vi m), some (vi (aW A)), some (vi (t + 1)), none]) rfl ?_
          refine ih44 h27 (t + 1) (by omega) ?_
          refine ⟨by omega, by omega, S28, by rw [hh27, hh25]; exact Fr.w (Fr.w (hF) ⟨by omega, by omega⟩) ⟨by omega, by omega⟩, fun a j ha => ?_, ⟨?_, ?_, ?_, ?_⟩, fun q z1 z2 => ?_⟩
          · rw [wh27, if_neg (by omega), wh25, if_neg (by omega)]; exact hO a j ha
          · rw [wh27, if_neg (by omega), wh25, if_neg (by omega)]; exact hv.1
          · rw [wh27, if_neg (by omega), wh25, if_neg (by omega)]; exact hv.2.1
          · rw [wh27, if_neg (by omega), wh25, if_neg (by omega)]; exact hv.2.2.1
          · rw [wh27, if_neg (by omega), wh25, if_neg (by omega)]; exact hv.2.2.2
          · by_cases e1 : q = t
            · subst e1
              refine ⟨?_, ?_⟩
              · rw [wh27, if_neg (by omega), wh25, if_pos ⟨rfl, rfl⟩, ← hdl]
                split <;> omega
              · rw [wh27, if_pos ⟨rfl, rfl⟩]
            · have := hc q z1 (by omega)
              refine ⟨?_, ?_⟩
              · rw [wh27, if_neg (by omega), wh25, if_neg (by omega)]; exact this.1
              · rw [wh27, if_neg (by omega), wh25, if_neg (by omega)]; exact this.2
        · refine X.iconst dX0_speak_75 (pc' := 76) rfl ?_
          refine X.goto (tgt := 86) dX0_speak_76 (by decide) ?_
          refine X.iast dX0_speak_86 (hRg.1.2.2.2.2.2.2.2.2.2.2.2.1 (t) (by omega) (by omega)).2 (by omega) (by omega) ⟨by omega, by omega⟩ ⟨by omega, by omega⟩ (pc' := 87) rfl ?_
          refine X.genH (fun h29 hh29 => ?_)
          have wh29 : ∀ (a : Nat) (j : Int), mI h29 a j = if a = (b + 8 + (t).toNat) ∧ j = aW A then (-1) else mI g a j := fun _ _ => by rw [hh29]; rfl
          have S30 : R0 h29 b A := R0_keep2 hRg (by rw [hh29]; rfl) (by rw [hh29]; rfl) (fun a j _ _ _ => by rw [wh29, if_neg (by omega)])
          refine X.aload_n (i := 0) rfl rfl dX0_speak_87 (pc' := 88) rfl ?_
          refine X.getR fk_X0_35 xcl_0 dX0_speak_88 S30.1.1 S30.1.2.2.2.2.2.2.2.2.1.1 (pc' := 91) rfl ?_
          refine X.iload (i := 5) rfl dX0_speak_91 (pc' := 93) rfl ?_
          refine X.aald13 dX0_speak_93 S30.1.2.2.2.2.2.2.2.2.1.2 (by omega) (by omega) ⟨by omega, by omega⟩ (S30.1.2.2.2.2.2.2.2.2.2.2.2.2.1 (t) (by omega) (by omega)).1 (pc' := 94) rfl ?_
          refine X.iload (i := 4) rfl dX0_speak_94 (pc' := 96) rfl ?_
          refine X.iconst dX0_speak_96 (pc' := 97) rfl ?_
          refine X.iast dX0_speak_97 (S30.1.2.2.2.2.2.2.2.2.2.2.2.2.1 (t) (by omega) (by omega)).2 (by omega) (by omega) ⟨by omega, by omega⟩ ⟨by omega, by omega⟩ (pc' := 98) rfl ?_
          refine X.genH (fun h31 hh31 => ?_)
          have wh31 : ∀ (a : Nat) (j : Int), mI h31 a j = if a = (b + 15 + (t).toNat) ∧ j = aW A then (-1) else mI h29 a j := fun _ _ => by rw [hh31]; rfl
          have S32 : R0 h31 b A := R0_keep2 S30 (by rw [hh31]; rfl) (by rw [hh31]; rfl) (fun a j _ _ _ => by rw [wh31, if_neg (by omega)])
          refine X.iinc (i := 5) (ls' := [some (rf b), some (vi s), some (vi w), some (vi m), some (vi (aW A)), some (vi (t + 1)), some (vi dl)]) dX0_speak_98 rfl (by decide) rfl rfl (pc' := 101) rfl ?_
          refine X.goto (tgt := 44) dX0_speak_101 (by decide) ?_
          refine X.mask (bs := [true, true, true, true, true, true, false]) (ls' := [some (rf b), some (vi s), some (vi w), some (vi m), some (vi (aW A)), some (vi (t + 1)), none]) rfl ?_
          refine ih44 h31 (t + 1) (by omega) ?_
          refine ⟨by omega, by omega, S32, by rw [hh31, hh29]; exact Fr.w (Fr.w (hF) ⟨by omega, by omega⟩) ⟨by omega, by omega⟩, fun a j ha => ?_, ⟨?_, ?_, ?_, ?_⟩, fun q z1 z2 => ?_⟩
          · rw [wh31, if_neg (by omega), wh29, if_neg (by omega)]; exact hO a j ha
          · rw [wh31, if_neg (by omega), wh29, if_neg (by omega)]; exact hv.1
          · rw [wh31, if_neg (by omega), wh29, if_neg (by omega)]; exact hv.2.1
          · rw [wh31, if_neg (by omega), wh29, if_neg (by omega)]; exact hv.2.2.1
          · rw [wh31, if_neg (by omega), wh29, if_neg (by omega)]; exact hv.2.2.2
          · by_cases e1 : q = t
            · subst e1
              refine ⟨?_, ?_⟩
              · rw [wh31, if_neg (by omega), wh29, if_pos ⟨rfl, rfl⟩, ← hdl]
                split <;> omega
              · rw [wh31, if_pos ⟨rfl, rfl⟩]
            · have := hc q z1 (by omega)
              refine ⟨?_, ?_⟩
              · rw [wh31, if_neg (by omega), wh29, if_neg (by omega)]; exact this.1
              · rw [wh31, if_neg (by omega), wh29, if_neg (by omega)]; exact this.2
  refine L44 _ h9 0 (Nat.lt_succ_self _) ?_
  exact ⟨by omega, by omega, S10, by rw [hh9, hh6, hh4, hh2]; exact Fr.w (Fr.w (Fr.w (Fr.w (Fr.rf) ⟨by omega, by omega⟩) ⟨by omega, by omega⟩) ⟨by omega, by omega⟩) ⟨by omega, by omega⟩, fun a j ha => by rw [wh9, if_neg (by omega), wh6, if_neg (by omega), wh4, if_neg (by omega), wh2, if_neg (by omega)], ⟨by rw [wh9, if_neg (by omega), wh6, if_neg (by omega), wh4, if_neg (by omega), wh2, if_pos ⟨rfl, rfl⟩], by rw [wh9, if_neg (by omega), wh6, if_neg (by omega), wh4, if_pos ⟨rfl, rfl⟩], by rw [wh9, if_neg (by omega), wh6, if_pos ⟨rfl, rfl⟩], by rw [wh9, if_pos ⟨rfl, rfl⟩]⟩, fun q h1 h2 => by omega⟩
set_option maxHeartbeats 4000000 in
set_option maxRecDepth 100000 in
theorem k_X0_rest {Ω : xO} {h : xM} {b : Nat} {A : aS} {n : Int} (hR : RC h b A) (hn : 0 ≤ n ∧ aB A + n ≤ 400) : xCt Ω yX0_rest cX0_rest 3 none rm_X0_rest [rf b, vi n] h (fun q h' => q = none ∧ RC h' b (aRest A n.toNat) ∧ Fr h h' b) xNo := by
  refine xCt_of (ini := false) (by decide +kernel) (Nat.le_of_ble_eq_true rfl) (fun q => absurd q (by decide)) ?_
  generalize hPR : (fun q h' => q = none ∧ RC h' b (aRest A n.toNat) ∧ Fr h h' b : Option xV → xM → Prop) = PR
  have K0 : X Ω RX0 cX0_rest 3 none false rm_X0_rest PR xNo 0 0 0 [some (rf b), some (vi n), none] [] h := ?_
  exact K0
  obtain ⟨okB, okN, okWl, okS, okW, okM, okC, okH⟩ := id hR.1.2.1
  refine X.iconst dX0_rest_0 (pc' := 1) rfl ?_
  refine X.istore_n (i := 2) (ls' := [some (rf b), some (vi n), some (vi 0)]) (hi := rfl) (hd := dX0_rest_1) (by decide) rfl rfl (pc' := 2) rfl ?_
  have L2 : ∀ (n2 : Nat) (g : xM) (i : Int), (n - i).toNat < n2 → (0 ≤ i ∧ i ≤ n ∧ RC g b (aRest A i.toNat) ∧ Fr h g b) → X Ω RX0 cX0_rest 3 none false rm_X0_rest PR xNo 0 0 2 [some (rf b), some (vi n), some (vi i)] [] g := by
    intro n2
    induction n2 with
    | zero => intro g i hm _; exfalso; omega
    | succ n2 ih2 =>
      intro g i hm2 hinv
      obtain ⟨hi0, hin, hRg, hF⟩ := hinv
      have hbe := aB_rest A i.toNat
      refine X.iload_n (i := 2) rfl rfl dX0_rest_2 (pc' := 3) rfl ?_
      refine X.iload_n (i := 1) rfl rfl dX0_rest_3 (pc' := 4) rfl ?_
      refine X.icmp_ge (tgt := 17) dX0_rest_4 ⟨by omega, by omega⟩ ⟨by omega, by omega⟩ (by decide) (pc' := 7) rfl (fun c4 => ?_) (fun c4 => ?_)
      · refine X.vret dX0_rest_17 rfl (Nat.le_of_ble_eq_true rfl) (Nat.le_of_ble_eq_true rfl) ?_
        subst hPR
        have e : i = n := by omega
        subst e
        exact ⟨rfl, hRg, hF⟩
      · refine X.aload_n (i := 0) rfl rfl dX0_rest_7 (pc' := 8) rfl ?_
        refine X.callV (ci := 0) (a := b) (rm := rm_X0_endBeat) (As := []) (st := []) dX0_rest_8 ck_X0_64 rfl (by decide) hRg.1.1.1 rfl rfl ⟨Nat.le_of_ble_eq_true rfl, Nat.le_of_ble_eq_true rfl⟩ (Nat.le_of_ble_eq_true rfl) (Nat.le_of_ble_eq_true rfl) (Nat.le_of_ble_eq_true rfl) (pc' := 11) rfl (k_X0_endBeat hRg (by omega)) (fun q1 hq1 eq1 => ?_) (fun _ _ x1 => x1.elim)
        obtain ⟨rfl, hRE, hFE⟩ := eq1
        refine X.iinc (i := 2) (ls' := [some (rf b), some (vi n), some (vi (i + 1))]) dX0_rest_11 rfl (by decide) rfl rfl (pc' := 14) rfl ?_
        refine X.goto (tgt := 2) dX0_rest_14 (by decide) ?_
        refine ih2 hq1 (i + 1) (by omega) ?_
        exact ⟨by omega, by omega, by rw [show (i + 1).toNat = i.toNat + 1 by omega]; exact hRE, Fr.tr hF hFE⟩
  refine L2 _ h 0 (Nat.lt_succ_self _) ?_
  exact ⟨by omega, by omega, hR, Fr.rf⟩
