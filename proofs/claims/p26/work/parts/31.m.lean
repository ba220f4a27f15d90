set_option maxHeartbeats 4000000 in
set_option maxRecDepth 100000 in
theorem k_X0_endBeat {Ω : xO} {h : xM} {b : Nat} {A : aS} (hR : RC h b A) (hB : aB A < 400) : xCt Ω yX0_endBeat cX0_endBeat 3 none rm_X0_endBeat [rf b] h (fun q h' => q = none ∧ RC h' b (aEnd A) ∧ Fr h h' b) xNo := by
  refine xCt_of (ini := false) (by decide +kernel) (Nat.le_of_ble_eq_true rfl) (fun q => absurd q (by decide)) ?_
  generalize hPR : (fun q h' => q = none ∧ RC h' b (aEnd A) ∧ Fr h h' b : Option xV → xM → Prop) = PR
  have K0 : X Ω RX0 cX0_endBeat 3 none false rm_X0_endBeat PR xNo 0 0 0 [some (rf b), none, none] [] h := ?_
  exact K0
  obtain ⟨okB, okN, okWl, okS, okW, okM, okC, okH⟩ := id hR.1.2.1
  have hR0 := hR.1
  have okA : aOK A := hR.1.2.1
  refine X.iconst dX0_endBeat_0 (pc' := 1) rfl ?_
  refine X.istore_n (i := 1) (ls' := [some (rf b), some (vi 0), none]) (hi := rfl) (hd := dX0_endBeat_1) (by decide) rfl rfl (pc' := 2) rfl ?_
  have L2 : ∀ (n2 : Nat) (g : xM) (s : Int), (6 - s).toNat < n2 → (0 ≤ s ∧ s ≤ 6 ∧ Fr h g b ∧ (∀ a, (a ≤ b + 14 ∨ b + 28 ≤ a ∨ a = b + 21) → mI g a = mI h a) ∧ (∀ q k, 0 ≤ q → q < 6 → mI g (b + 22 + q.toNat) k = if q < s ∧ k = aB A then vce A q (aB A) else mI h (b + 22 + q.toNat) k) ∧ (∀ q n, 0 ≤ q → q < 6 → mI g (b + 15 + q.toNat) n = if q < s ∧ 0 ≤ n ∧ vce A q (aB A) = n ∧ mI h (b + 15 + q.toNat) n = -1 then aB A else mI h (b + 15 + q.toNat) n)) → X Ω RX0 cX0_endBeat 3 none false rm_X0_endBeat PR xNo 0 0 2 [some (rf b), some (vi s), none] [] g := by
    intro n2
    induction n2 with
    | zero => intro g s hm _; exfalso; omega
    | succ n2 ih2 =>
      intro g s hm2 hinv
      obtain ⟨hs0, hs6, hF, hO, hH, hf⟩ := hinv
      have hRg : R0 g b A := R0_keep hR0 hF.2.1 hF.2.2.1 (fun a h1 h2 => hO a (by omega))
      refine X.iload_n (i := 1) rfl rfl dX0_endBeat_2 (pc' := 3) rfl ?_
      refine X.bipush (by decide +kernel) dX0_endBeat_3 (pc' := 5) rfl ?_
      refine X.icmp_ge (tgt := 65) dX0_endBeat_5 ⟨by omega, by omega⟩ ⟨by omega, by omega⟩ (by decide) (pc' := 8) rfl (fun c5 => ?_) (fun c5 => ?_)
      · refine X.aload_n (i := 0) rfl rfl dX0_endBeat_65 (pc' := 66) rfl ?_
        refine X.dup rfl dX0_endBeat_66 (pc' := 67) rfl ?_
        refine X.getI (x := aB A) fk_X0_44 xcl_0 dX0_endBeat_67 (by decide) hRg.1.1 hRg.2.2.1 (pc' := 70) rfl (fun r1 => ?_)
        obtain ⟨r1a, r1b⟩ := r1
        refine X.iconst dX0_endBeat_70 (pc' := 71) rfl ?_
        refine X.iadd dX0_endBeat_71 (pc' := 72) rfl ?_
        refine X.putI fk_X0_44 xcl_0 ⟨_, rfl, Or.inl rfl⟩ dX0_endBeat_72 (Or.inl rfl) ⟨by omega, by omega⟩ hRg.1.1 (pc' := 75) rfl ?_
        refine X.genH (fun h2 hh2 => ?_)
        have wh2 : ∀ (a : Nat) (j : Int), mI h2 a j = if a = b ∧ j = 0 then (aB A) + 1 else mI g a j := fun _ _ => by rw [hh2]; rfl
        have S3 : ChS h2 b := by rw [hh2]; exact hRg.1
        refine X.vret dX0_endBeat_75 rfl (Nat.le_of_ble_eq_true rfl) (Nat.le_of_ble_eq_true rfl) ?_
        subst hPR
        have hs : s = 6 := by omega
        subst hs
        refine ⟨rfl, ⟨⟨ChS.eq hRg.1 (by rw [hh2]; rfl) (by rw [hh2]; rfl), aEnd_ok okA hB, ?_, ?_, fun j h1 h2 => ?_, fun j h1 h2 => ?_, fun n h1 h2 => ?_, fun n h1 h2 => ?_, fun n h1 h2 => ?_, fun n h1 h2 => ?_, fun q n h1 h2 h3 h4 => ?_⟩, fun q n h1 h2 h3 h4 => ?_, fun q k h1 h2 h3 h4 => ?_, fun p h1 h2 => ?_⟩, ?_⟩
        · rw [wh2, if_pos ⟨rfl, rfl⟩]; rfl
        · rw [wh2, if_neg (by omega)]; exact hRg.2.2.2.1
        · rw [wh2, if_neg (by omega)]; exact hRg.2.2.2.2.1 j h1 h2
        · rw [wh2, if_neg (by omega)]; exact hRg.2.2.2.2.2.1 j h1 h2
        · rw [wh2, if_neg (by omega)]; exact hRg.2.2.2.2.2.2.1 n h1 h2
        · rw [wh2, if_neg (by omega)]; exact hRg.2.2.2.2.2.2.2.1 n h1 h2
        · rw [wh2, if_neg (by omega)]; exact hRg.2.2.2.2.2.2.2.2.1 n h1 h2
        · rw [wh2, if_neg (by omega)]; exact hRg.2.2.2.2.2.2.2.2.2.1 n h1 h2
        · rw [wh2, if_neg (by omega)]; exact hRg.2.2.2.2.2.2.2.2.2.2 q n h1 h2 h3 h4
        · have h4 : n < aW A := h4
          rw [wh2, if_neg (by omega), hf q n h1 h2, fh_end okA q n h3 h4, hR.2.1 q n h1 h2 h3 h4]
          by_cases e1 : fh A q n = -1 ∧ vce A q (aB A) = n
          · rw [if_pos e1, if_pos ⟨by omega, h3, e1.2, e1.1⟩]
          · rw [if_neg e1, if_neg (fun z => e1 ⟨z.2.2.2, z.2.2.1⟩)]
        · have h4 : k < aB A + 1 := h4
          rw [wh2, if_neg (by omega), hH q k h1 h2]
          show _ = if k = aB A then vce A q (aB A) else aHe A q k
          by_cases e1 : k = aB A
          · rw [if_pos ⟨by omega, e1⟩, if_pos e1]
          · rw [if_neg (by omega), if_neg e1]
            exact hR.2.2.1 q k h1 h2 h3 (by omega)
        · rw [wh2, if_neg (by omega), hO (b + 28) (by omega)]; exact hR.2.2.2 p h1 h2
        · rw [hh2]; exact Fr.w hF ⟨by omega, by omega⟩
      · refine X.aload_n (i := 0) rfl rfl dX0_endBeat_8 (pc' := 9) rfl ?_
        refine X.iload_n (i := 1) rfl rfl dX0_endBeat_9 (pc' := 10) rfl ?_
        refine X.aload_n (i := 0) rfl rfl dX0_endBeat_10 (pc' := 11) rfl ?_
        refine X.getI (x := aB A) fk_X0_44 xcl_0 dX0_endBeat_11 (by decide) hRg.1.1 hRg.2.2.1 (pc' := 14) rfl (fun r4 => ?_)
        obtain ⟨r4a, r4b⟩ := r4
        refine X.callV (ci := 0) (a := b) (rm := rm_X0_secondLast) (As := [vi s, vi (aB A)]) (st := []) dX0_endBeat_14 ck_X0_67 rfl (by decide) hRg.1.1 rfl rfl ⟨Nat.le_of_ble_eq_true rfl, Nat.le_of_ble_eq_true rfl⟩ (Nat.le_of_ble_eq_true rfl) (Nat.le_of_ble_eq_true rfl) (Nat.le_of_ble_eq_true rfl) (pc' := 17) rfl (k_X0_secondLast hRg ⟨hs0, by omega⟩ ⟨by omega, by omega⟩) (fun q5 hq5 eq5 => ?_) (fun _ _ x1 => x1.elim)
        obtain ⟨rfl, v, rfl, hv⟩ := eq5
        have hvr := vce_rng okA s (aB A) hs0 (by omega)
        refine X.istore_n (i := 2) (ls' := [some (rf b), some (vi s), some (vi v)]) (hi := rfl) (hd := dX0_endBeat_17) (by decide) rfl rfl (pc' := 18) rfl ?_
        refine X.aload_n (i := 0) rfl rfl dX0_endBeat_18 (pc' := 19) rfl ?_
        refine X.getR fk_X0_38 xcl_0 dX0_endBeat_19 hRg.1.1 hRg.1.2.2.2.2.2.2.2.2.2.1.1 (pc' := 22) rfl ?_
        refine X.iload_n (i := 1) rfl rfl dX0_endBeat_22 (pc' := 23) rfl ?_
        refine X.aald13 dX0_endBeat_23 hRg.1.2.2.2.2.2.2.2.2.2.1.2 (by omega) (by omega) ⟨by omega, by omega⟩ (hRg.1.2.2.2.2.2.2.2.2.2.2.2.2.2 (s) (by omega) (by omega)).1 (pc' := 24) rfl ?_
        refine X.aload_n (i := 0) rfl rfl dX0_endBeat_24 (pc' := 25) rfl ?_
        refine X.getI (x := aB A) fk_X0_44 xcl_0 dX0_endBeat_25 (by decide) hRg.1.1 hRg.2.2.1 (pc' := 28) rfl (fun r6 => ?_)
        obtain ⟨r6a, r6b⟩ := r6
        refine X.iload_n (i := 2) rfl rfl dX0_endBeat_28 (pc' := 29) rfl ?_
        refine X.iast dX0_endBeat_29 (hRg.1.2.2.2.2.2.2.2.2.2.2.2.2.2 (s) (by omega) (by omega)).2 (by omega) (by omega) ⟨by omega, by omega⟩ ⟨by omega, by omega⟩ (pc' := 30) rfl ?_
        refine X.genH (fun h7 hh7 => ?_)
        have wh7 : ∀ (a : Nat) (j : Int), mI h7 a j = if a = (b + 22 + (s).toNat) ∧ j = aB A then v else mI g a j := fun _ _ => by rw [hh7]; rfl
        have S8 : R0 h7 b A := R0_keep hRg (by rw [hh7]; rfl) (by rw [hh7]; rfl) (fun a _ _ => funext fun j => by rw [wh7, if_neg (by omega)])
        refine X.iload_n (i := 2) rfl rfl dX0_endBeat_30 (pc' := 31) rfl ?_
        refine X.iconst dX0_endBeat_31 (pc' := 32) rfl ?_
        refine X.icmp_eq (tgt := 59) dX0_endBeat_32 ⟨by omega, by omega⟩ ⟨by omega, by omega⟩ (by decide) (pc' := 35) rfl (fun c32 => ?_) (fun c32 => ?_)
        · refine X.iinc (i := 1) (ls' := [some (rf b), some (vi (s + 1)), some (vi v)]) dX0_endBeat_59 rfl (by decide) rfl rfl (pc' := 62) rfl ?_
          refine X.goto (tgt := 2) dX0_endBeat_62 (by decide) ?_
          refine X.mask (bs := [true, true, false]) (ls' := [some (rf b), some (vi (s + 1)), none]) rfl ?_
          refine ih2 h7 (s + 1) (by omega) ?_
          refine ⟨by omega, by omega, ?_, fun a ha => funext fun j => ?_, fun q k q0 q6 => ?_, fun q n q0 q6 => ?_⟩
          · rw [hh7]; exact Fr.w hF ⟨by omega, by omega⟩
          · rw [wh7, if_neg (by omega), hO a ha]
          · rw [wh7, hH q k q0 q6]
            by_cases e1 : q = s ∧ k = aB A
            · rw [if_pos (by omega), if_pos (by omega), e1.1, hv]
            · rw [if_neg (by omega)]
              by_cases e2 : q < s ∧ k = aB A
              · rw [if_pos e2, if_pos (by omega)]
              · rw [if_neg e2, if_neg (by omega)]
          · rw [wh7, if_neg (by omega), hf q n q0 q6]
            by_cases e1 : q = s
            · subst e1
              rw [if_neg (by omega), if_neg ?_]
              rintro ⟨z1, z2, z3, z4⟩
              omega
            · by_cases e2 : q < s ∧ 0 ≤ n ∧ vce A q (aB A) = n ∧ mI h (b + 15 + q.toNat) n = -1
              · rw [if_pos e2, if_pos (by omega)]
              · rw [if_neg e2, if_neg (by omega)]
          
        · refine X.aload_n (i := 0) rfl rfl dX0_endBeat_35 (pc' := 36) rfl ?_
          refine X.getR fk_X0_35 xcl_0 dX0_endBeat_36 S8.1.1 S8.1.2.2.2.2.2.2.2.2.1.1 (pc' := 39) rfl ?_
          refine X.iload_n (i := 1) rfl rfl dX0_endBeat_39 (pc' := 40) rfl ?_
          refine X.aald13 dX0_endBeat_40 S8.1.2.2.2.2.2.2.2.2.1.2 (by omega) (by omega) ⟨by omega, by omega⟩ (S8.1.2.2.2.2.2.2.2.2.2.2.2.2.1 (s) (by omega) (by omega)).1 (pc' := 41) rfl ?_
          refine X.iload_n (i := 2) rfl rfl dX0_endBeat_41 (pc' := 42) rfl ?_
          refine X.iald (x := mI h7 ((b + 15 + (s).toNat)) v) dX0_endBeat_42 (S8.1.2.2.2.2.2.2.2.2.2.2.2.2.1 (s) (by omega) (by omega)).2 (by omega) (by omega) ⟨by omega, by omega⟩ rfl (pc' := 43) rfl (fun r9 => ?_)
          obtain ⟨r9a, r9b⟩ := r9
          have hfr : mI h7 ((b + 15 + (s).toNat)) v = mI g (b + 15 + s.toNat) v := by rw [wh7, if_neg (by omega)]
          refine X.iconst dX0_endBeat_43 (pc' := 44) rfl ?_
          refine X.icmp_ne (tgt := 59) dX0_endBeat_44 ⟨by omega, by omega⟩ ⟨by omega, by omega⟩ (by decide) (pc' := 47) rfl (fun c44 => ?_) (fun c44 => ?_)
          · refine X.iinc (i := 1) (ls' := [some (rf b), some (vi (s + 1)), some (vi v)]) dX0_endBeat_59 rfl (by decide) rfl rfl (pc' := 62) rfl ?_
            refine X.goto (tgt := 2) dX0_endBeat_62 (by decide) ?_
            refine X.mask (bs := [true, true, false]) (ls' := [some (rf b), some (vi (s + 1)), none]) rfl ?_
            refine ih2 h7 (s + 1) (by omega) ?_
            refine ⟨by omega, by omega, ?_, fun a ha => funext fun j => ?_, fun q k q0 q6 => ?_, fun q n q0 q6 => ?_⟩
            · rw [hh7]; exact Fr.w hF ⟨by omega, by omega⟩
            · rw [wh7, if_neg (by omega), hO a ha]
            · rw [wh7, hH q k q0 q6]
              by_cases e1 : q = s ∧ k = aB A
              · rw [if_pos (by omega), if_pos (by omega), e1.1, hv]
              · rw [if_neg (by omega)]
                by_cases e2 : q < s ∧ k = aB A
                · rw [if_pos e2, if_pos (by omega)]
                · rw [if_neg e2, if_neg (by omega)]
            · rw [wh7, if_neg (by omega), hf q n q0 q6]
              by_cases e1 : q = s
              · subst e1
                rw [if_neg (by omega), if_neg ?_]
                rintro ⟨z1, z2, z3, z4⟩
                have := hf q n q0 q6
                rw [if_neg (by omega)] at this
                have z5 : n = v := by omega
                have z6 := congrArg (mI g (b + 15 + q.toNat)) z5
                omega
              · by_cases e2 : q < s ∧ 0 ≤ n ∧ vce A q (aB A) = n ∧ mI h (b + 15 + q.toNat) n = -1
                · rw [if_pos e2, if_pos (by omega)]
                · rw [if_neg e2, if_neg (by omega)]
            
          · refine X.aload_n (i := 0) rfl rfl dX0_endBeat_47 (pc' := 48) rfl ?_
            refine X.getR fk_X0_35 xcl_0 dX0_endBeat_48 S8.1.1 S8.1.2.2.2.2.2.2.2.2.1.1 (pc' := 51) rfl ?_
            refine X.iload_n (i := 1) rfl rfl dX0_endBeat_51 (pc' := 52) rfl ?_
            refine X.aald13 dX0_endBeat_52 S8.1.2.2.2.2.2.2.2.2.1.2 (by omega) (by omega) ⟨by omega, by omega⟩ (S8.1.2.2.2.2.2.2.2.2.2.2.2.2.1 (s) (by omega) (by omega)).1 (pc' := 53) rfl ?_
            refine X.iload_n (i := 2) rfl rfl dX0_endBeat_53 (pc' := 54) rfl ?_
            refine X.aload_n (i := 0) rfl rfl dX0_endBeat_54 (pc' := 55) rfl ?_
            refine X.getI (x := aB A) fk_X0_44 xcl_0 dX0_endBeat_55 (by decide) S8.1.1 S8.2.2.1 (pc' := 58) rfl (fun r10 => ?_)
            obtain ⟨r10a, r10b⟩ := r10
            have hbb : aB A = aB A := rfl
            refine X.iast dX0_endBeat_58 (S8.1.2.2.2.2.2.2.2.2.2.2.2.2.1 (s) (by omega) (by omega)).2 (by omega) (by omega) ⟨by omega, by omega⟩ ⟨by omega, by omega⟩ (pc' := 59) rfl ?_
            refine X.genH (fun h11 hh11 => ?_)
            have wh11 : ∀ (a : Nat) (j : Int), mI h11 a j = if a = (b + 15 + (s).toNat) ∧ j = v then aB A else mI h7 a j := fun _ _ => by rw [hh11]; rfl
            have S12 : R0 h11 b A := R0_keep S8 (by rw [hh11]; rfl) (by rw [hh11]; rfl) (fun a _ _ => funext fun j => by rw [wh11, if_neg (by omega)])
            refine X.iinc (i := 1) (ls' := [some (rf b), some (vi (s + 1)), some (vi v)]) dX0_endBeat_59 rfl (by decide) rfl rfl (pc' := 62) rfl ?_
            refine X.goto (tgt := 2) dX0_endBeat_62 (by decide) ?_
            refine X.mask (bs := [true, true, false]) (ls' := [some (rf b), some (vi (s + 1)), none]) rfl ?_
            refine ih2 h11 (s + 1) (by omega) ?_
            refine ⟨by omega, by omega, ?_, fun a ha => funext fun j => ?_, fun q k q0 q6 => ?_, fun q n q0 q6 => ?_⟩
            · rw [hh11, hh7]; exact Fr.w (Fr.w hF ⟨by omega, by omega⟩) ⟨by omega, by omega⟩
            · rw [wh11, if_neg (by omega), wh7, if_neg (by omega), hO a ha]
            · rw [wh11, if_neg (by omega), wh7, hH q k q0 q6]
              by_cases e1 : q = s ∧ k = aB A
              · rw [if_pos (by omega), if_pos (by omega), e1.1, hv]
              · rw [if_neg (by omega)]
                by_cases e2 : q < s ∧ k = aB A
                · rw [if_pos e2, if_pos (by omega)]
                · rw [if_neg e2, if_neg (by omega)]
            · rw [wh11, wh7, if_neg (show ¬ (b + 15 + q.toNat = b + 22 + s.toNat ∧ n = aB A) by omega), hf q n q0 q6]
              by_cases e1 : q = s
              · subst e1
                by_cases e2 : n = v
                · subst e2
                  have h9 : mI h (b + 15 + q.toNat) n = -1 := by
                    have := hf q n q0 q6
                    rw [if_neg (by omega)] at this
                    omega
                  rw [if_pos ⟨rfl, rfl⟩, if_pos ⟨by omega, by omega, hv.symm, h9⟩]
                · rw [if_neg (by omega), if_neg (by omega), if_neg (by omega)]
              · rw [if_neg (by omega)]
                by_cases e2 : q < s ∧ 0 ≤ n ∧ vce A q (aB A) = n ∧ mI h (b + 15 + q.toNat) n = -1
                · rw [if_pos e2, if_pos (by omega)]
                · rw [if_neg e2, if_neg (by omega)]
            
  refine L2 _ h 0 (Nat.lt_succ_self _) ?_
  exact ⟨by omega, by omega, Fr.rf, fun _ _ => rfl, fun q k h1 h2 => by rw [if_neg (by omega)], fun q n h1 h2 => by rw [if_neg (by omega)]⟩
