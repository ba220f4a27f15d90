set_option maxHeartbeats 4000000 in
set_option maxRecDepth 100000 in
theorem k_L_hangs {Ω : xO} {h : xM} {x lo : Nat} {L : lS} (hE : EL h x lo L) (hI : aInv (lA L)) : xCt Ω yL_hangs cL_hangs 15 (some .boolean) rm_L_hangs [rf x] h (fun q h' => q = some (vi 1) ∧ EL h' x lo L ∧ EF h h' x lo) xNo := by
  refine xCt_of (ini := false) (by decide +kernel) (Nat.le_of_ble_eq_true rfl) (fun q => absurd q (by decide)) ?_
  generalize hPR : (fun q h' => q = some (vi 1) ∧ EL h' x lo L ∧ EF h h' x lo : Option xV → xM → Prop) = PR
  have K0 : X Ω RL cL_hangs 15 (some .boolean) false rm_L_hangs PR xNo 0 0 0 [some (rf x), none, none, none, none, none, none, none, none, none, none, none, none, none, none] [] h := ?_
  exact K0
  have okA := hE.2.1.1.2.1
  obtain ⟨okB, okN, okWl, okS, okW, okM, okC, okH⟩ := id hE.2.1.1.2.1
  have okP := hE.2.2.2.2.2.1.1
  have hWB := aW_le okA okP
  refine X.aload_n (i := 0) rfl rfl dL_hangs_0 (pc' := 1) rfl ?_
  refine X.iconst dL_hangs_1 (pc' := 2) rfl ?_
  refine X.callSW (rm := rm_L_count0) (As := [rf x, vi 0]) (st := []) dL_hangs_2 ckS_count rfl rfl ⟨Nat.le_of_ble_eq_true rfl, Nat.le_of_ble_eq_true rfl⟩ (Nat.le_of_ble_eq_true rfl) (Nat.le_of_ble_eq_true rfl) (Nat.le_of_ble_eq_true rfl) (pc' := 5) rfl (k_L_count0 hE ⟨by omega, by omega⟩ (by omega)) (fun q1 hq1 eq1 => ?_)
  obtain ⟨rfl, wq1⟩ := eq1
  obtain rfl : q1 = some (vi (aB (lA L))) := wq1.trans (by rfl)
  refine X.gen (fun nB hnB => ?_)
  refine X.istore_n (i := 1) (ls' := [some (rf x), some (vi nB), none, none, none, none, none, none, none, none, none, none, none, none, none]) (hi := rfl) (hd := dL_hangs_5) (by decide) rfl rfl (pc' := 6) rfl ?_
  refine X.aload_n (i := 0) rfl rfl dL_hangs_6 (pc' := 7) rfl ?_
  refine X.iconst dL_hangs_7 (pc' := 8) rfl ?_
  refine X.callSW (rm := rm_L_count0) (As := [rf x, vi 1]) (st := []) dL_hangs_8 ckS_count rfl rfl ⟨Nat.le_of_ble_eq_true rfl, Nat.le_of_ble_eq_true rfl⟩ (Nat.le_of_ble_eq_true rfl) (Nat.le_of_ble_eq_true rfl) (Nat.le_of_ble_eq_true rfl) (pc' := 11) rfl (k_L_count0 hE ⟨by omega, by omega⟩ (by omega)) (fun q2 hq2 eq2 => ?_)
  obtain ⟨rfl, wq2⟩ := eq2
  obtain rfl : q2 = some (vi (aW (lA L))) := wq2.trans (by rfl)
  refine X.gen (fun nW hnW => ?_)
  refine X.istore_n (i := 2) (ls' := [some (rf x), some (vi nB), some (vi nW), none, none, none, none, none, none, none, none, none, none, none, none]) (hi := rfl) (hd := dL_hangs_11) (by decide) rfl rfl (pc' := 12) rfl ?_
  refine X.iconst dL_hangs_12 (pc' := 13) rfl ?_
  refine X.istore_n (i := 3) (ls' := [some (rf x), some (vi nB), some (vi nW), some (vi 0), none, none, none, none, none, none, none, none, none, none, none]) (hi := rfl) (hd := dL_hangs_13) (by decide) rfl rfl (pc' := 14) rfl ?_
  refine X.iconst dL_hangs_14 (pc' := 15) rfl ?_
  refine X.istore (i := 4) (ls' := [some (rf x), some (vi nB), some (vi nW), some (vi 0), some (vi 0), none, none, none, none, none, none, none, none, none, none]) (hd := dL_hangs_15) (by decide) rfl rfl (pc' := 17) rfl ?_
  refine X.iload_n (i := 2) rfl rfl dL_hangs_17 (pc' := 18) rfl ?_
  refine X.iload_n (i := 1) rfl rfl dL_hangs_18 (pc' := 19) rfl ?_
  refine X.icmp_gt (tgt := 48) dL_hangs_19 ⟨by omega, by omega⟩ ⟨by omega, by omega⟩ (by decide) (pc' := 22) rfl (fun c19 => by exfalso; omega) (fun c19 => ?_)
  refine X.aload_n (i := 0) rfl rfl dL_hangs_22 (pc' := 23) rfl ?_
  refine X.iload_n (i := 2) rfl rfl dL_hangs_23 (pc' := 24) rfl ?_
  refine X.iconst dL_hangs_24 (pc' := 25) rfl ?_
  refine X.callSW (rm := rm_L_said0) (As := [rf x, vi nW, vi 0]) (st := []) dL_hangs_25 ckS_said rfl rfl ⟨Nat.le_of_ble_eq_true rfl, Nat.le_of_ble_eq_true rfl⟩ (Nat.le_of_ble_eq_true rfl) (Nat.le_of_ble_eq_true rfl) (Nat.le_of_ble_eq_true rfl) (pc' := 28) rfl (k_L_said0 hE ⟨by omega, by omega⟩ ⟨by omega, by omega⟩ (by omega)) (fun q3 hq3 eq3 => ?_)
  obtain ⟨rfl, wq3⟩ := eq3
  obtain rfl : q3 = some (vi ((-1))) := wq3.trans (by rw [if_neg (by omega)])
  refine X.iconst dL_hangs_28 (pc' := 29) rfl ?_
  refine X.icmp_ne (tgt := 48) dL_hangs_29 ⟨by omega, by omega⟩ ⟨by omega, by omega⟩ (by decide) (pc' := 32) rfl (fun c29 => by exfalso; omega) (fun c29 => ?_)
  refine X.aload_n (i := 0) rfl rfl dL_hangs_32 (pc' := 33) rfl ?_
  refine X.iload_n (i := 2) rfl rfl dL_hangs_33 (pc' := 34) rfl ?_
  refine X.bipush (by decide +kernel) dL_hangs_34 (pc' := 36) rfl ?_
  refine X.callSW (rm := rm_L_said) (As := [rf x, vi nW, vi 6]) (st := []) dL_hangs_36 ckS_said rfl rfl ⟨Nat.le_of_ble_eq_true rfl, Nat.le_of_ble_eq_true rfl⟩ (Nat.le_of_ble_eq_true rfl) (Nat.le_of_ble_eq_true rfl) (Nat.le_of_ble_eq_true rfl) (pc' := 39) rfl (k_L_said hE ⟨by omega, by omega⟩ ⟨by omega, by omega⟩) (fun q4 hq4 eq4 => ?_)
  obtain ⟨r1, rfl, hF1, hc1⟩ := eq4
  have hr1 : r1 = (-2000001) ∧ EL hq4 x lo L := by
    rcases hc1 with ⟨hcd, -, -⟩ | ⟨hp, hE9⟩
    · exfalso; omega
    · refine ⟨?_, hE9⟩
      rcases hp with z | z | z
      · have := z.1; have := z.2; omega
      · have := z.2.1; have := z.2.2; omega
      · have := z.1; have := z.2.1; omega
  obtain ⟨rfl, hE1⟩ := hr1
  refine X.ldcI (v := (-2000001)) dL_hangs_39 kL_17 (pc' := 41) rfl ?_
  refine X.icmp_ne (tgt := 48) dL_hangs_41 ⟨by omega, by omega⟩ ⟨by omega, by omega⟩ (by decide) (pc' := 44) rfl (fun c41 => by exfalso; omega) (fun c41 => ?_)
  refine X.iconst dL_hangs_44 (pc' := 45) rfl ?_
  refine X.goto (tgt := 49) dL_hangs_45 (by decide) ?_
  refine X.istore (i := 5) (ls' := [some (rf x), some (vi nB), some (vi nW), some (vi 0), some (vi 0), some (vi 1), none, none, none, none, none, none, none, none, none]) (hd := dL_hangs_49) (by decide) rfl rfl (pc' := 51) rfl ?_
  obtain ⟨a, ha⟩ : ∃ a, a = mN hq4 := ⟨_, rfl⟩
  refine X.bipush (by decide +kernel) dL_hangs_51 (pc' := 53) rfl ?_
  refine X.newa (N := 6) (t := 10) dL_hangs_53 (Or.inl ⟨rfl, rfl⟩) wd_105 rfl (by decide) (Nat.le_of_ble_eq_true rfl) (Nat.le_of_ble_eq_true rfl) (pc' := 55) rfl ?_
  refine X.genH (fun h5 hh5 => ?_)
  have nh5 : mN h5 = mN hq4 + 1 := by rw [hh5, mN_aL]
  rw [← ha]
  refine X.astore (i := 6) (ls' := [some (rf x), some (vi nB), some (vi nW), some (vi 0), some (vi 0), some (vi 1), some (rf a), none, none, none, none, none, none, none, none]) (hd := dL_hangs_55) (by decide) rfl rfl (pc' := 57) rfl ?_
  refine X.bipush (by decide +kernel) dL_hangs_57 (pc' := 59) rfl ?_
  refine X.newa (N := 6) (t := 10) dL_hangs_59 (Or.inl ⟨rfl, rfl⟩) wd_105 rfl (by decide) (Nat.le_of_ble_eq_true rfl) (Nat.le_of_ble_eq_true rfl) (pc' := 61) rfl ?_
  refine X.genH (fun h6 hh6 => ?_)
  rw [show mN h5 = a + 1 by rw [nh5, ha]]
  have hM0 : HM hq4 h6 a := ⟨ha, by rw [hh6, mN_aL, nh5, ha]; omega, fun q hq => (show Sam hq4 h5 q by rw [hh5]; exact aL_sam (by omega)).tr (by rw [hh6]; exact aL_sam (by rw [nh5]; omega)), by rw [hh6, mT_aL, nh5, if_neg (by omega), hh5, mT_aL, if_pos ha], by rw [hh6, mT_aL, nh5, if_pos (by omega)]⟩
  have hz0 : ∀ s : Int, mI h6 a s = 0 := fun s => by rw [hh6, mI_aL, nh5, if_neg (by omega), hh5, mI_aL, if_pos ha]
  have hz1 : ∀ s : Int, mI h6 (a + 1) s = 0 := fun s => by rw [hh6, mI_aL, nh5, if_pos (by omega)]
  refine X.astore (i := 7) (ls' := [some (rf x), some (vi nB), some (vi nW), some (vi 0), some (vi 0), some (vi 1), some (rf a), some (rf ((a + 1))), none, none, none, none, none, none, none]) (hd := dL_hangs_61) (by decide) rfl rfl (pc' := 63) rfl ?_
  refine X.iconst dL_hangs_63 (pc' := 64) rfl ?_
  refine X.istore (i := 8) (ls' := [some (rf x), some (vi nB), some (vi nW), some (vi 0), some (vi 0), some (vi 1), some (rf a), some (rf ((a + 1))), some (vi 0), none, none, none, none, none, none]) (hd := dL_hangs_64) (by decide) rfl rfl (pc' := 66) rfl ?_
  have L66 : ∀ (n66 : Nat) (hm : xM) (al : Int) (ne : Int) (k : Int), (nW - k).toNat < n66 → (HM hq4 hm a ∧ (0 ≤ k ∧ k ≤ nW) ∧ al = cnt (fun n => mHe (lA L) n = 63) (fun _ => inferInstance) k.toNat ∧ ne = cnt (fun n => mHe (lA L) n = 0) (fun _ => inferInstance) k.toNat ∧ (∀ s, 0 ≤ s → s < 6 → mI hm a s = cnt (fun n => fh (lA L) s n ≠ -1) (fun _ => inferInstance) k.toNat) ∧ (∀ s, 0 ≤ s → s < 6 → mI hm (a + 1) s = cnt (fun n => aSe (lA L) n = s) (fun _ => inferInstance) k.toNat)) → X Ω RL cL_hangs 15 (some .boolean) false rm_L_hangs PR xNo 3 18 66 [some (rf x), some (vi nB), some (vi nW), some (vi al), some (vi ne), some (vi 1), some (rf a), some (rf ((a + 1))), some (vi k), none, none, none, none, none, none] [] hm := by
    intro n66
    induction n66 with
    | zero => intro hm al ne k hm _; exfalso; omega
    | succ n66 ih66 =>
      intro hm al ne k hm66 hinv
      obtain ⟨hM, hk, hal, hne, hon, hwn⟩ := hinv
      refine X.iload (i := 8) rfl dL_hangs_66 (pc' := 68) rfl ?_
      refine X.iload_n (i := 2) rfl rfl dL_hangs_68 (pc' := 69) rfl ?_
      refine X.icmp_ge (tgt := 417) dL_hangs_69 ⟨by omega, by omega⟩ ⟨by omega, by omega⟩ (by decide) (pc' := 72) rfl (fun c69 => ?_) (fun c69 => ?_)
      · have ek : k = nW := by omega
        have eal : al = mWd (lA L) 63 := by rw [hal, ek, hnW]; rfl
        have ene : ne = mWd (lA L) 0 := by rw [hne, ek, hnW]; rfl
        have c63 := cnt_rng (fun n => mHe (lA L) n = 63) (fun _ => inferInstance) k.toNat
        have c0 := cnt_rng (fun n => mHe (lA L) n = 0) (fun _ => inferInstance) k.toNat
        rw [← hal] at c63
        rw [← hne] at c0
        refine X.iload (i := 5) rfl dL_hangs_417 (pc' := 419) rfl ?_
        refine X.if_eq (tgt := 445) dL_hangs_419 ⟨by omega, by omega⟩ (by decide) (pc' := 422) rfl (fun c419 => by exfalso; omega) (fun c419 => ?_)
        refine X.aload_n (i := 0) rfl rfl dL_hangs_422 (pc' := 423) rfl ?_
        refine X.iconst dL_hangs_423 (pc' := 424) rfl ?_
        refine X.callSW (rm := rm_L_count0) (As := [rf x, vi 2]) (st := []) dL_hangs_424 ckS_count rfl rfl ⟨Nat.le_of_ble_eq_true rfl, Nat.le_of_ble_eq_true rfl⟩ (Nat.le_of_ble_eq_true rfl) (Nat.le_of_ble_eq_true rfl) (Nat.le_of_ble_eq_true rfl) (pc' := 427) rfl (k_L_count0 (hM.el hE1).1 ⟨by omega, by omega⟩ (by omega)) (fun q7 hq7 eq7 => ?_)
        obtain ⟨rfl, wq7⟩ := eq7
        obtain rfl : q7 = some (vi (mWd (lA L) 63)) := wq7.trans (by rfl)
        refine X.iload_n (i := 3) rfl rfl dL_hangs_427 (pc' := 428) rfl ?_
        refine X.icmp_ne (tgt := 445) dL_hangs_428 ⟨by omega, by omega⟩ ⟨by omega, by omega⟩ (by decide) (pc' := 431) rfl (fun c428 => by exfalso; omega) (fun c428 => ?_)
        refine X.aload_n (i := 0) rfl rfl dL_hangs_431 (pc' := 432) rfl ?_
        refine X.iconst dL_hangs_432 (pc' := 433) rfl ?_
        refine X.callSW (rm := rm_L_count0) (As := [rf x, vi 3]) (st := []) dL_hangs_433 ckS_count rfl rfl ⟨Nat.le_of_ble_eq_true rfl, Nat.le_of_ble_eq_true rfl⟩ (Nat.le_of_ble_eq_true rfl) (Nat.le_of_ble_eq_true rfl) (Nat.le_of_ble_eq_true rfl) (pc' := 436) rfl (k_L_count0 (hM.el hE1).1 ⟨by omega, by omega⟩ (by omega)) (fun q8 hq8 eq8 => ?_)
        obtain ⟨rfl, wq8⟩ := eq8
        obtain rfl : q8 = some (vi (mWd (lA L) 0)) := wq8.trans (by rfl)
        refine X.iload (i := 4) rfl dL_hangs_436 (pc' := 438) rfl ?_
        refine X.icmp_ne (tgt := 445) dL_hangs_438 ⟨by omega, by omega⟩ ⟨by omega, by omega⟩ (by decide) (pc' := 441) rfl (fun c438 => by exfalso; omega) (fun c438 => ?_)
        refine X.iconst dL_hangs_441 (pc' := 442) rfl ?_
        refine X.goto (tgt := 446) dL_hangs_442 (by decide) ?_
        refine X.istore (i := 5) (ls' := [some (rf x), some (vi nB), some (vi nW), some (vi al), some (vi ne), some (vi 1), some (rf a), some (rf ((a + 1))), some (vi k), none, none, none, none, none, none]) (hd := dL_hangs_446) (by decide) rfl rfl (pc' := 448) rfl ?_
        refine X.iconst dL_hangs_448 (pc' := 449) rfl ?_
        refine X.istore (i := 8) (ls' := [some (rf x), some (vi nB), some (vi nW), some (vi al), some (vi ne), some (vi 1), some (rf a), some (rf ((a + 1))), some (vi 0), none, none, none, none, none, none]) (hd := dL_hangs_449) (by decide) rfl rfl (pc' := 451) rfl ?_
        have L451 : ∀ (n451 : Nat) (t : Int), (6 - t).toNat < n451 → (0 ≤ t ∧ t ≤ 6) → X Ω RL cL_hangs 15 (some .boolean) false rm_L_hangs PR xNo 3 18 451 [some (rf x), some (vi nB), some (vi nW), none, none, some (vi 1), some (rf a), some (rf ((a + 1))), some (vi t), none, none, none, none, none, none] [] hm := by
          intro n451
          induction n451 with
          | zero => intro t hm _; exfalso; omega
          | succ n451 ih451 =>
            intro t hm451 ht
            refine X.iload (i := 8) rfl dL_hangs_451 (pc' := 453) rfl ?_
            refine X.bipush (by decide +kernel) dL_hangs_453 (pc' := 455) rfl ?_
            refine X.icmp_ge (tgt := 751) dL_hangs_455 ⟨by omega, by omega⟩ ⟨by omega, by omega⟩ (by decide) (pc' := 458) rfl (fun c455 => ?_) (fun c455 => ?_)
            · refine X.iload (i := 5) rfl dL_hangs_751 (pc' := 753) rfl ?_
              refine X.iret dL_hangs_753 (Or.inr ⟨rfl, by omega⟩) (Nat.le_of_ble_eq_true rfl) (Nat.le_of_ble_eq_true rfl) ?_
              subst hPR
              exact ⟨rfl, (hM.el hE1).1, hF1.tr (hM.el hE1).2⟩
            · refine X.iload (i := 5) rfl dL_hangs_458 (pc' := 460) rfl ?_
              refine X.if_eq (tgt := 751) dL_hangs_460 ⟨by omega, by omega⟩ (by decide) (pc' := 463) rfl (fun c460 => by exfalso; omega) (fun c460 => ?_)
              refine X.iconst dL_hangs_463 (pc' := 464) rfl ?_
              refine X.istore (i := 9) (ls' := [some (rf x), some (vi nB), some (vi nW), none, none, some (vi 1), some (rf a), some (rf ((a + 1))), some (vi t), some (vi 0), none, none, none, none, none]) (hd := dL_hangs_464) (by decide) rfl rfl (pc' := 466) rfl ?_
              refine X.iconst dL_hangs_466 (pc' := 467) rfl ?_
              refine X.istore (i := 10) (ls' := [some (rf x), some (vi nB), some (vi nW), none, none, some (vi 1), some (rf a), some (rf ((a + 1))), some (vi t), some (vi 0), some (vi 0), none, none, none, none]) (hd := dL_hangs_467) (by decide) rfl rfl (pc' := 469) rfl ?_
              refine X.iconst dL_hangs_469 (pc' := 470) rfl ?_
              refine X.istore (i := 11) (ls' := [some (rf x), some (vi nB), some (vi nW), none, none, some (vi 1), some (rf a), some (rf ((a + 1))), some (vi t), some (vi 0), some (vi 0), some (vi 0), none, none, none]) (hd := dL_hangs_470) (by decide) rfl rfl (pc' := 472) rfl ?_
              have L472 : ∀ (n472 : Nat) (w : Int) (g : Int) (b : Int), (nB - b).toNat < n472 → ((0 ≤ b ∧ b ≤ nB) ∧ w = cnt (fun k => aHe (lA L) t k ≠ -1) (fun _ => inferInstance) b.toNat ∧ g = cnt (fun k => 0 < k ∧ aHe (lA L) t k ≠ -1 ∧ aHe (lA L) t k = aHe (lA L) t (k - 1)) (fun _ => inferInstance) b.toNat) → X Ω RL cL_hangs 15 (some .boolean) false rm_L_hangs PR xNo 3 18 472 [some (rf x), some (vi nB), some (vi nW), none, none, some (vi 1), some (rf a), some (rf ((a + 1))), some (vi t), some (vi w), some (vi g), some (vi b), none, none, none] [] hm := by
                intro n472
                induction n472 with
                | zero => intro w g b hm _; exfalso; omega
                | succ n472 ih472 =>
                  intro w g b hm472 hinv3
                  obtain ⟨hb, hw, hg⟩ := hinv3
                  refine X.iload (i := 11) rfl dL_hangs_472 (pc' := 474) rfl ?_
                  refine X.iload_n (i := 1) rfl rfl dL_hangs_474 (pc' := 475) rfl ?_
                  refine X.icmp_ge (tgt := 612) dL_hangs_475 ⟨by omega, by omega⟩ ⟨by omega, by omega⟩ (by decide) (pc' := 478) rfl (fun c475 => ?_) (fun c475 => ?_)
                  · have eb : b = nB := by omega
                    have ew : w = hBt (lA L) t := by rw [hw, eb, hnB]; rfl
                    have eg : g = hRp (lA L) t := by rw [hg, eb, hnB]; rfl
                    have gl := gap_le (lA L) t
                    have o1 := hBt_rng okA t
                    have o3 : 0 ≤ hRp (lA L) t ∧ hRp (lA L) t ≤ 400 := oSp_rng okA (s := t) (w := 3) ⟨by omega, by omega⟩
                    have o5 : 0 ≤ gap (lA L) t ∧ gap (lA L) t ≤ 400 := oSp_rng okA (s := t) (w := 5) ⟨by omega, by omega⟩
                    have o6 : 0 ≤ sBy (lA L) t ∧ sBy (lA L) t ≤ 400 := oSp_rng okA (s := t) (w := 6) ⟨by omega, by omega⟩
                    have o7 : 0 ≤ hWd (lA L) t ∧ hWd (lA L) t ≤ 400 := oSp_rng okA (s := t) (w := 7) ⟨by omega, by omega⟩
                    refine X.iload (i := 5) rfl dL_hangs_612 (pc' := 614) rfl ?_
                    refine X.if_eq (tgt := 671) dL_hangs_614 ⟨by omega, by omega⟩ (by decide) (pc' := 617) rfl (fun c614 => by exfalso; omega) (fun c614 => ?_)
                    refine X.aload_n (i := 0) rfl rfl dL_hangs_617 (pc' := 618) rfl ?_
                    refine X.iload (i := 8) rfl dL_hangs_618 (pc' := 620) rfl ?_
                    refine X.iconst dL_hangs_620 (pc' := 621) rfl ?_
                    refine X.callSW (rm := rm_L_speaker0) (As := [rf x, vi t, vi 1]) (st := []) dL_hangs_621 ckS_speaker rfl rfl ⟨Nat.le_of_ble_eq_true rfl, Nat.le_of_ble_eq_true rfl⟩ (Nat.le_of_ble_eq_true rfl) (Nat.le_of_ble_eq_true rfl) (Nat.le_of_ble_eq_true rfl) (pc' := 624) rfl (k_L_speaker0 (hM.el hE1).1 ⟨by omega, by omega⟩ ⟨by omega, by omega⟩ (by omega)) (fun q9 hq9 eq9 => ?_)
                    obtain ⟨rfl, wq9⟩ := eq9
                    obtain rfl : q9 = some (vi (hBt (lA L) t)) := wq9.trans (by rfl)
                    refine X.iload (i := 9) rfl dL_hangs_624 (pc' := 626) rfl ?_
                    refine X.icmp_ne (tgt := 671) dL_hangs_626 ⟨by omega, by omega⟩ ⟨by omega, by omega⟩ (by decide) (pc' := 629) rfl (fun c626 => by exfalso; omega) (fun c626 => ?_)
                    refine X.aload_n (i := 0) rfl rfl dL_hangs_629 (pc' := 630) rfl ?_
                    refine X.iload (i := 8) rfl dL_hangs_630 (pc' := 632) rfl ?_
                    refine X.iconst dL_hangs_632 (pc' := 633) rfl ?_
                    refine X.callSW (rm := rm_L_speaker0) (As := [rf x, vi t, vi 3]) (st := []) dL_hangs_633 ckS_speaker rfl rfl ⟨Nat.le_of_ble_eq_true rfl, Nat.le_of_ble_eq_true rfl⟩ (Nat.le_of_ble_eq_true rfl) (Nat.le_of_ble_eq_true rfl) (Nat.le_of_ble_eq_true rfl) (pc' := 636) rfl (k_L_speaker0 (hM.el hE1).1 ⟨by omega, by omega⟩ ⟨by omega, by omega⟩ (by omega)) (fun q10 hq10 eq10 => ?_)
                    obtain ⟨rfl, wq10⟩ := eq10
                    obtain rfl : q10 = some (vi (hRp (lA L) t)) := wq10.trans (by rfl)
                    refine X.iload (i := 10) rfl dL_hangs_636 (pc' := 638) rfl ?_
                    refine X.icmp_ne (tgt := 671) dL_hangs_638 ⟨by omega, by omega⟩ ⟨by omega, by omega⟩ (by decide) (pc' := 641) rfl (fun c638 => by exfalso; omega) (fun c638 => ?_)
                    refine X.aload_n (i := 0) rfl rfl dL_hangs_641 (pc' := 642) rfl ?_
                    refine X.iload (i := 8) rfl dL_hangs_642 (pc' := 644) rfl ?_
                    refine X.iconst dL_hangs_644 (pc' := 645) rfl ?_
                    refine X.callSW (rm := rm_L_speaker0) (As := [rf x, vi t, vi 4]) (st := []) dL_hangs_645 ckS_speaker rfl rfl ⟨Nat.le_of_ble_eq_true rfl, Nat.le_of_ble_eq_true rfl⟩ (Nat.le_of_ble_eq_true rfl) (Nat.le_of_ble_eq_true rfl) (Nat.le_of_ble_eq_true rfl) (pc' := 648) rfl (k_L_speaker0 (hM.el hE1).1 ⟨by omega, by omega⟩ ⟨by omega, by omega⟩ (by omega)) (fun q11 hq11 eq11 => ?_)
                    obtain ⟨rfl, wq11⟩ := eq11
                    obtain rfl : q11 = some (vi (aB (lA L) - hBt (lA L) t)) := wq11.trans (by rfl)
                    refine X.iload_n (i := 1) rfl rfl dL_hangs_648 (pc' := 649) rfl ?_
                    refine X.iload (i := 9) rfl dL_hangs_649 (pc' := 651) rfl ?_
                    refine X.isub dL_hangs_651 (pc' := 652) rfl ?_
                    refine X.icmp_ne (tgt := 671) dL_hangs_652 ⟨by omega, by omega⟩ ⟨by omega, by omega⟩ (by decide) (pc' := 655) rfl (fun c652 => by exfalso; omega) (fun c652 => ?_)
                    refine X.aload_n (i := 0) rfl rfl dL_hangs_655 (pc' := 656) rfl ?_
                    refine X.iload (i := 8) rfl dL_hangs_656 (pc' := 658) rfl ?_
                    refine X.iconst dL_hangs_658 (pc' := 659) rfl ?_
                    refine X.callSW (rm := rm_L_speaker0) (As := [rf x, vi t, vi 5]) (st := []) dL_hangs_659 ckS_speaker rfl rfl ⟨Nat.le_of_ble_eq_true rfl, Nat.le_of_ble_eq_true rfl⟩ (Nat.le_of_ble_eq_true rfl) (Nat.le_of_ble_eq_true rfl) (Nat.le_of_ble_eq_true rfl) (pc' := 662) rfl (k_L_speaker0 (hM.el hE1).1 ⟨by omega, by omega⟩ ⟨by omega, by omega⟩ (by omega)) (fun q12 hq12 eq12 => ?_)
                    obtain ⟨rfl, wq12⟩ := eq12
                    obtain rfl : q12 = some (vi (gap (lA L) t)) := wq12.trans (by rfl)
                    refine X.iload (i := 9) rfl dL_hangs_662 (pc' := 664) rfl ?_
                    refine X.icmp_gt (tgt := 671) dL_hangs_664 ⟨by omega, by omega⟩ ⟨by omega, by omega⟩ (by decide) (pc' := 667) rfl (fun c664 => by exfalso; omega) (fun c664 => ?_)
                    refine X.iconst dL_hangs_667 (pc' := 668) rfl ?_
                    refine X.goto (tgt := 672) dL_hangs_668 (by decide) ?_
                    refine X.istore (i := 5) (ls' := [some (rf x), some (vi nB), some (vi nW), none, none, some (vi 1), some (rf a), some (rf ((a + 1))), some (vi t), some (vi w), some (vi g), some (vi b), none, none, none]) (hd := dL_hangs_672) (by decide) rfl rfl (pc' := 674) rfl ?_
                    refine X.iload (i := 5) rfl dL_hangs_674 (pc' := 676) rfl ?_
                    refine X.if_eq (tgt := 742) dL_hangs_676 ⟨by omega, by omega⟩ (by decide) (pc' := 679) rfl (fun c676 => by exfalso; omega) (fun c676 => ?_)
                    refine X.aload_n (i := 0) rfl rfl dL_hangs_679 (pc' := 680) rfl ?_
                    refine X.iload (i := 8) rfl dL_hangs_680 (pc' := 682) rfl ?_
                    refine X.iconst dL_hangs_682 (pc' := 683) rfl ?_
                    refine X.callSW (rm := rm_L_speaker0) (As := [rf x, vi t, vi 2]) (st := []) dL_hangs_683 ckS_speaker rfl rfl ⟨Nat.le_of_ble_eq_true rfl, Nat.le_of_ble_eq_true rfl⟩ (Nat.le_of_ble_eq_true rfl) (Nat.le_of_ble_eq_true rfl) (Nat.le_of_ble_eq_true rfl) (pc' := 686) rfl (k_L_speaker0 (hM.el hE1).1 ⟨by omega, by omega⟩ ⟨by omega, by omega⟩ (by omega)) (fun q13 hq13 eq13 => ?_)
                    obtain ⟨rfl, wq13⟩ := eq13
                    obtain rfl : q13 = some (vi (hWd (lA L) t)) := wq13.trans (by rfl)
                    refine X.aload (i := 6) rfl dL_hangs_686 (pc' := 688) rfl ?_
                    refine X.iload (i := 8) rfl dL_hangs_688 (pc' := 690) rfl ?_
                    refine X.iald (x := hWd (lA L) t) dL_hangs_690 hM.2.2.2.1 (by omega) (by omega) ⟨by omega, by omega⟩ (by rw [hon t (by omega) (by omega), ek, hnW]; rfl) (pc' := 691) rfl (fun r14 => ?_)
                    obtain ⟨r14a, r14b⟩ := r14
                    refine X.icmp_ne (tgt := 742) dL_hangs_691 ⟨by omega, by omega⟩ ⟨by omega, by omega⟩ (by decide) (pc' := 694) rfl (fun c691 => by exfalso; omega) (fun c691 => ?_)
                    refine X.aload_n (i := 0) rfl rfl dL_hangs_694 (pc' := 695) rfl ?_
                    refine X.iload (i := 8) rfl dL_hangs_695 (pc' := 697) rfl ?_
                    refine X.bipush (by decide +kernel) dL_hangs_697 (pc' := 699) rfl ?_
                    refine X.callSW (rm := rm_L_speaker0) (As := [rf x, vi t, vi 7]) (st := []) dL_hangs_699 ckS_speaker rfl rfl ⟨Nat.le_of_ble_eq_true rfl, Nat.le_of_ble_eq_true rfl⟩ (Nat.le_of_ble_eq_true rfl) (Nat.le_of_ble_eq_true rfl) (Nat.le_of_ble_eq_true rfl) (pc' := 702) rfl (k_L_speaker0 (hM.el hE1).1 ⟨by omega, by omega⟩ ⟨by omega, by omega⟩ (by omega)) (fun q15 hq15 eq15 => ?_)
                    obtain ⟨rfl, wq15⟩ := eq15
                    obtain rfl : q15 = some (vi (hWd (lA L) t)) := wq15.trans (by rfl)
                    refine X.aload (i := 6) rfl dL_hangs_702 (pc' := 704) rfl ?_
                    refine X.iload (i := 8) rfl dL_hangs_704 (pc' := 706) rfl ?_
                    refine X.iald (x := hWd (lA L) t) dL_hangs_706 hM.2.2.2.1 (by omega) (by omega) ⟨by omega, by omega⟩ (by rw [hon t (by omega) (by omega), ek, hnW]; rfl) (pc' := 707) rfl (fun r16 => ?_)
                    obtain ⟨r16a, r16b⟩ := r16
                    refine X.icmp_ne (tgt := 742) dL_hangs_707 ⟨by omega, by omega⟩ ⟨by omega, by omega⟩ (by decide) (pc' := 710) rfl (fun c707 => by exfalso; omega) (fun c707 => ?_)
                    refine X.aload_n (i := 0) rfl rfl dL_hangs_710 (pc' := 711) rfl ?_
                    refine X.iload (i := 8) rfl dL_hangs_711 (pc' := 713) rfl ?_
                    refine X.bipush (by decide +kernel) dL_hangs_713 (pc' := 715) rfl ?_
                    refine X.callSW (rm := rm_L_speaker0) (As := [rf x, vi t, vi 6]) (st := []) dL_hangs_715 ckS_speaker rfl rfl ⟨Nat.le_of_ble_eq_true rfl, Nat.le_of_ble_eq_true rfl⟩ (Nat.le_of_ble_eq_true rfl) (Nat.le_of_ble_eq_true rfl) (Nat.le_of_ble_eq_true rfl) (pc' := 718) rfl (k_L_speaker0 (hM.el hE1).1 ⟨by omega, by omega⟩ ⟨by omega, by omega⟩ (by omega)) (fun q17 hq17 eq17 => ?_)
                    obtain ⟨rfl, wq17⟩ := eq17
                    obtain rfl : q17 = some (vi (sBy (lA L) t)) := wq17.trans (by rfl)
                    refine X.aload (i := 7) rfl dL_hangs_718 (pc' := 720) rfl ?_
                    refine X.iload (i := 8) rfl dL_hangs_720 (pc' := 722) rfl ?_
                    refine X.iald (x := sBy (lA L) t) dL_hangs_722 hM.2.2.2.2 (by omega) (by omega) ⟨by omega, by omega⟩ (by rw [hwn t (by omega) (by omega), ek, hnW]; rfl) (pc' := 723) rfl (fun r18 => ?_)
                    obtain ⟨r18a, r18b⟩ := r18
                    refine X.icmp_ne (tgt := 742) dL_hangs_723 ⟨by omega, by omega⟩ ⟨by omega, by omega⟩ (by decide) (pc' := 726) rfl (fun c723 => by exfalso; omega) (fun c723 => ?_)
                    refine X.aload_n (i := 0) rfl rfl dL_hangs_726 (pc' := 727) rfl ?_
                    refine X.iload (i := 8) rfl dL_hangs_727 (pc' := 729) rfl ?_
                    refine X.iload_n (i := 1) rfl rfl dL_hangs_729 (pc' := 730) rfl ?_
                    refine X.iconst dL_hangs_730 (pc' := 731) rfl ?_
                    refine X.callSW (rm := rm_L_heard0) (As := [rf x, vi t, vi nB, vi 0]) (st := []) dL_hangs_731 ckS_heard rfl rfl ⟨Nat.le_of_ble_eq_true rfl, Nat.le_of_ble_eq_true rfl⟩ (Nat.le_of_ble_eq_true rfl) (Nat.le_of_ble_eq_true rfl) (Nat.le_of_ble_eq_true rfl) (pc' := 734) rfl (k_L_heard0 (hM.el hE1).1 ⟨by omega, by omega⟩ ⟨by omega, by omega⟩ ⟨by omega, by omega⟩ (by omega)) (fun q19 hq19 eq19 => ?_)
                    obtain ⟨rfl, wq19⟩ := eq19
                    obtain rfl : q19 = some (vi ((-1))) := wq19.trans (by rw [if_neg (by omega)])
                    refine X.iconst dL_hangs_734 (pc' := 735) rfl ?_
                    refine X.icmp_ne (tgt := 742) dL_hangs_735 ⟨by omega, by omega⟩ ⟨by omega, by omega⟩ (by decide) (pc' := 738) rfl (fun c735 => by exfalso; omega) (fun c735 => ?_)
                    refine X.iconst dL_hangs_738 (pc' := 739) rfl ?_
                    refine X.goto (tgt := 743) dL_hangs_739 (by decide) ?_
                    refine X.istore (i := 5) (ls' := [some (rf x), some (vi nB), some (vi nW), none, none, some (vi 1), some (rf a), some (rf ((a + 1))), some (vi t), some (vi w), some (vi g), some (vi b), none, none, none]) (hd := dL_hangs_743) (by decide) rfl rfl (pc' := 745) rfl ?_
                    refine X.iinc (i := 8) (ls' := [some (rf x), some (vi nB), some (vi nW), none, none, some (vi 1), some (rf a), some (rf ((a + 1))), some (vi (t + 1)), some (vi w), some (vi g), some (vi b), none, none, none]) dL_hangs_745 rfl (by decide) rfl rfl (pc' := 748) rfl ?_
                    refine X.goto (tgt := 451) dL_hangs_748 (by decide) ?_
                    refine X.mask (bs := [true, true, true, false, false, true, true, true, true, false, false, false, false, false, false]) (ls' := [some (rf x), some (vi nB), some (vi nW), none, none, some (vi 1), some (rf a), some (rf ((a + 1))), some (vi (t + 1)), none, none, none, none, none, none]) rfl ?_
                    refine ih451 (t + 1) (by omega) ?_
                    omega
                  · refine X.iload (i := 5) rfl dL_hangs_478 (pc' := 480) rfl ?_
                    refine X.if_eq (tgt := 612) dL_hangs_480 ⟨by omega, by omega⟩ (by decide) (pc' := 483) rfl (fun c480 => by exfalso; omega) (fun c480 => ?_)
                    refine X.aload_n (i := 0) rfl rfl dL_hangs_483 (pc' := 484) rfl ?_
                    refine X.iload (i := 8) rfl dL_hangs_484 (pc' := 486) rfl ?_
                    refine X.iload (i := 11) rfl dL_hangs_486 (pc' := 488) rfl ?_
                    refine X.iconst dL_hangs_488 (pc' := 489) rfl ?_
                    refine X.callSW (rm := rm_L_heard0) (As := [rf x, vi t, vi b, vi 0]) (st := []) dL_hangs_489 ckS_heard rfl rfl ⟨Nat.le_of_ble_eq_true rfl, Nat.le_of_ble_eq_true rfl⟩ (Nat.le_of_ble_eq_true rfl) (Nat.le_of_ble_eq_true rfl) (Nat.le_of_ble_eq_true rfl) (pc' := 492) rfl (k_L_heard0 (hM.el hE1).1 ⟨by omega, by omega⟩ ⟨by omega, by omega⟩ ⟨by omega, by omega⟩ (by omega)) (fun q20 hq20 eq20 => ?_)
                    obtain ⟨rfl, wq20⟩ := eq20
                    obtain rfl : q20 = some (vi (aHe (lA L) t b)) := wq20.trans (by rw [if_pos (show b < aB (lA L) by omega), oBt_0])
                    have hH := okH t b (by omega) (by omega) (by omega) (by omega)
                    have hV := hI t b (by omega) (by omega) (by omega) (by omega)
                    refine X.gen (fun hd hhd => ?_)
                    refine X.istore (i := 12) (ls' := [some (rf x), some (vi nB), some (vi nW), none, none, some (vi 1), some (rf a), some (rf ((a + 1))), some (vi t), some (vi w), some (vi g), some (vi b), some (vi hd), none, none]) (hd := dL_hangs_492) (by decide) rfl rfl (pc' := 494) rfl ?_
                    have J509 : ∀ (w2 : Int), w2 = cnt (fun k => aHe (lA L) t k ≠ -1) (fun _ => inferInstance) (b + 1).toNat → X Ω RL cL_hangs 15 (some .boolean) false rm_L_hangs PR xNo 3 18 509 [some (rf x), some (vi nB), some (vi nW), none, none, some (vi 1), some (rf a), some (rf ((a + 1))), some (vi t), some (vi w2), some (vi g), some (vi b), some (vi hd), none, none] [] hm := by
                      intro w2 hw2
                      refine X.iload (i := 10) rfl dL_hangs_509 (pc' := 511) rfl ?_
                      have J532 : ∀ (g2 : Int), g2 = cnt (fun k => 0 < k ∧ aHe (lA L) t k ≠ -1 ∧ aHe (lA L) t k = aHe (lA L) t (k - 1)) (fun _ => inferInstance) (b + 1).toNat → X Ω RL cL_hangs 15 (some .boolean) false rm_L_hangs PR xNo 3 18 532 [some (rf x), some (vi nB), some (vi nW), none, none, some (vi 1), some (rf a), some (rf ((a + 1))), some (vi t), some (vi w2), some (vi g2), some (vi b), some (vi hd), none, none] [] hm := by
                        intro g2 hg2
                        refine X.iload (i := 12) rfl dL_hangs_532 (pc' := 534) rfl ?_
                        refine X.if_ge (tgt := 558) dL_hangs_534 ⟨by omega, by omega⟩ (by decide) (pc' := 537) rfl (fun c534 => ?_) (fun c534 => ?_)
                        · have hV2 := hV.resolve_left (by omega)
                          rw [← hhd] at hV2
                          refine X.iload (i := 12) rfl dL_hangs_558 (pc' := 560) rfl ?_
                          refine X.iload_n (i := 2) rfl rfl dL_hangs_560 (pc' := 561) rfl ?_
                          refine X.icmp_ge (tgt := 603) dL_hangs_561 ⟨by omega, by omega⟩ ⟨by omega, by omega⟩ (by decide) (pc' := 564) rfl (fun c561 => by exfalso; omega) (fun c561 => ?_)
                          refine X.aload_n (i := 0) rfl rfl dL_hangs_564 (pc' := 565) rfl ?_
                          refine X.iload (i := 12) rfl dL_hangs_565 (pc' := 567) rfl ?_
                          refine X.iload (i := 8) rfl dL_hangs_567 (pc' := 569) rfl ?_
                          refine X.callSW (rm := rm_L_comes0) (As := [rf x, vi hd, vi t]) (st := []) dL_hangs_569 ckS_comes rfl rfl ⟨Nat.le_of_ble_eq_true rfl, Nat.le_of_ble_eq_true rfl⟩ (Nat.le_of_ble_eq_true rfl) (Nat.le_of_ble_eq_true rfl) (Nat.le_of_ble_eq_true rfl) (pc' := 572) rfl (k_L_comes0 (hM.el hE1).1 ⟨by omega, by omega⟩ ⟨by omega, by omega⟩ (by omega)) (fun q21 hq21 eq21 => ?_)
                          obtain ⟨rfl, wq21⟩ := eq21
                          obtain rfl : q21 = some (vi (aCo (lA L) t hd)) := wq21.trans (by rw [if_pos (show hd < aW (lA L) by omega)])
                          refine X.if_lt (tgt := 603) dL_hangs_572 ⟨by omega, by omega⟩ (by decide) (pc' := 575) rfl (fun c572 => by exfalso; omega) (fun c572 => ?_)
                          refine X.aload_n (i := 0) rfl rfl dL_hangs_575 (pc' := 576) rfl ?_
                          refine X.iload (i := 12) rfl dL_hangs_576 (pc' := 578) rfl ?_
                          refine X.iload (i := 8) rfl dL_hangs_578 (pc' := 580) rfl ?_
                          refine X.callSW (rm := rm_L_comes0) (As := [rf x, vi hd, vi t]) (st := []) dL_hangs_580 ckS_comes rfl rfl ⟨Nat.le_of_ble_eq_true rfl, Nat.le_of_ble_eq_true rfl⟩ (Nat.le_of_ble_eq_true rfl) (Nat.le_of_ble_eq_true rfl) (Nat.le_of_ble_eq_true rfl) (pc' := 583) rfl (k_L_comes0 (hM.el hE1).1 ⟨by omega, by omega⟩ ⟨by omega, by omega⟩ (by omega)) (fun q22 hq22 eq22 => ?_)
                          obtain ⟨rfl, wq22⟩ := eq22
                          obtain rfl : q22 = some (vi (aCo (lA L) t hd)) := wq22.trans (by rw [if_pos (show hd < aW (lA L) by omega)])
                          refine X.iload (i := 11) rfl dL_hangs_583 (pc' := 585) rfl ?_
                          refine X.icmp_gt (tgt := 603) dL_hangs_585 ⟨by omega, by omega⟩ ⟨by omega, by omega⟩ (by decide) (pc' := 588) rfl (fun c585 => by exfalso; omega) (fun c585 => ?_)
                          refine X.aload_n (i := 0) rfl rfl dL_hangs_588 (pc' := 589) rfl ?_
                          refine X.iload (i := 12) rfl dL_hangs_589 (pc' := 591) rfl ?_
                          refine X.iload (i := 8) rfl dL_hangs_591 (pc' := 593) rfl ?_
                          refine X.callSW (rm := rm_L_whyNot0) (As := [rf x, vi hd, vi t]) (st := []) dL_hangs_593 ckS_whyNot rfl rfl ⟨Nat.le_of_ble_eq_true rfl, Nat.le_of_ble_eq_true rfl⟩ (Nat.le_of_ble_eq_true rfl) (Nat.le_of_ble_eq_true rfl) (Nat.le_of_ble_eq_true rfl) (pc' := 596) rfl (k_L_whyNot0 (hM.el hE1).1 ⟨by omega, by omega⟩ ⟨by omega, by omega⟩ (by omega)) (fun q23 hq23 eq23 => ?_)
                          obtain ⟨rfl, wq23⟩ := eq23
                          obtain rfl : q23 = some (vi 0) := wq23.trans (by rw [if_pos (show hd < aW (lA L) by omega), hhd, why_0 (fh_of okA (by omega) (by omega) (by omega) (by omega) (by omega))])
                          refine X.if_ne (tgt := 603) dL_hangs_596 ⟨by omega, by omega⟩ (by decide) (pc' := 599) rfl (fun c596 => by exfalso; omega) (fun c596 => ?_)
                          refine X.iconst dL_hangs_599 (pc' := 600) rfl ?_
                          refine X.goto (tgt := 604) dL_hangs_600 (by decide) ?_
                          refine X.istore (i := 5) (ls' := [some (rf x), some (vi nB), some (vi nW), none, none, some (vi 1), some (rf a), some (rf ((a + 1))), some (vi t), some (vi w2), some (vi g2), some (vi b), some (vi hd), none, none]) (hd := dL_hangs_604) (by decide) rfl rfl (pc' := 606) rfl ?_
                          refine X.iinc (i := 11) (ls' := [some (rf x), some (vi nB), some (vi nW), none, none, some (vi 1), some (rf a), some (rf ((a + 1))), some (vi t), some (vi w2), some (vi g2), some (vi (b + 1)), some (vi hd), none, none]) dL_hangs_606 rfl (by decide) rfl rfl (pc' := 609) rfl ?_
                          refine X.goto (tgt := 472) dL_hangs_609 (by decide) ?_
                          refine X.mask (bs := [true, true, true, false, false, true, true, true, true, true, true, true, false, false, false]) (ls' := [some (rf x), some (vi nB), some (vi nW), none, none, some (vi 1), some (rf a), some (rf ((a + 1))), some (vi t), some (vi w2), some (vi g2), some (vi (b + 1)), none, none, none]) rfl ?_
                          refine ih472 w2 g2 (b + 1) (by omega) ?_
                          exact ⟨by omega, hw2, hg2⟩
                        · refine X.aload_n (i := 0) rfl rfl dL_hangs_537 (pc' := 538) rfl ?_
                          refine X.iload (i := 8) rfl dL_hangs_538 (pc' := 540) rfl ?_
                          refine X.iload (i := 11) rfl dL_hangs_540 (pc' := 542) rfl ?_
                          refine X.iconst dL_hangs_542 (pc' := 543) rfl ?_
                          refine X.callSW (rm := rm_L_heard0) (As := [rf x, vi t, vi b, vi 1]) (st := []) dL_hangs_543 ckS_heard rfl rfl ⟨Nat.le_of_ble_eq_true rfl, Nat.le_of_ble_eq_true rfl⟩ (Nat.le_of_ble_eq_true rfl) (Nat.le_of_ble_eq_true rfl) (Nat.le_of_ble_eq_true rfl) (pc' := 546) rfl (k_L_heard0 (hM.el hE1).1 ⟨by omega, by omega⟩ ⟨by omega, by omega⟩ ⟨by omega, by omega⟩ (by omega)) (fun q24 hq24 eq24 => ?_)
                          obtain ⟨rfl, wq24⟩ := eq24
                          obtain rfl : q24 = some (vi ((-1))) := wq24.trans (by rw [if_pos (show b < aB (lA L) by omega), oBt_n (by omega)])
                          refine X.iconst dL_hangs_546 (pc' := 547) rfl ?_
                          refine X.icmp_ne (tgt := 554) dL_hangs_547 ⟨by omega, by omega⟩ ⟨by omega, by omega⟩ (by decide) (pc' := 550) rfl (fun c547 => by exfalso; omega) (fun c547 => ?_)
                          refine X.iconst dL_hangs_550 (pc' := 551) rfl ?_
                          refine X.goto (tgt := 604) dL_hangs_551 (by decide) ?_
                          refine X.istore (i := 5) (ls' := [some (rf x), some (vi nB), some (vi nW), none, none, some (vi 1), some (rf a), some (rf ((a + 1))), some (vi t), some (vi w2), some (vi g2), some (vi b), some (vi hd), none, none]) (hd := dL_hangs_604) (by decide) rfl rfl (pc' := 606) rfl ?_
                          refine X.iinc (i := 11) (ls' := [some (rf x), some (vi nB), some (vi nW), none, none, some (vi 1), some (rf a), some (rf ((a + 1))), some (vi t), some (vi w2), some (vi g2), some (vi (b + 1)), some (vi hd), none, none]) dL_hangs_606 rfl (by decide) rfl rfl (pc' := 609) rfl ?_
                          refine X.goto (tgt := 472) dL_hangs_609 (by decide) ?_
                          refine X.mask (bs := [true, true, true, false, false, true, true, true, true, true, true, true, false, false, false]) (ls' := [some (rf x), some (vi nB), some (vi nW), none, none, some (vi 1), some (rf a), some (rf ((a + 1))), some (vi t), some (vi w2), some (vi g2), some (vi (b + 1)), none, none, none]) rfl ?_
                          refine ih472 w2 g2 (b + 1) (by omega) ?_
                          exact ⟨by omega, hw2, hg2⟩
                      refine X.aload_n (i := 0) rfl rfl dL_hangs_511 (pc' := 512) rfl ?_
                      refine X.iload (i := 8) rfl dL_hangs_512 (pc' := 514) rfl ?_
                      refine X.iload (i := 11) rfl dL_hangs_514 (pc' := 516) rfl ?_
                      refine X.iconst dL_hangs_516 (pc' := 517) rfl ?_
                      refine X.callSW (rm := rm_L_heard0) (As := [rf x, vi t, vi b, vi 2]) (st := [vi g]) dL_hangs_517 ckS_heard rfl rfl ⟨Nat.le_of_ble_eq_true rfl, Nat.le_of_ble_eq_true rfl⟩ (Nat.le_of_ble_eq_true rfl) (Nat.le_of_ble_eq_true rfl) (Nat.le_of_ble_eq_true rfl) (pc' := 520) rfl (k_L_heard0 (hM.el hE1).1 ⟨by omega, by omega⟩ ⟨by omega, by omega⟩ ⟨by omega, by omega⟩ (by omega)) (fun q25 hq25 eq25 => ?_)
                      obtain ⟨rfl, wq25⟩ := eq25
                      obtain rfl : q25 = some (vi (oBt (lA L) t b 2)) := wq25.trans (by rw [if_pos (show b < aB (lA L) by omega)])
                      have h2c := oBt_2 (lA L) t b
                      refine X.iconst dL_hangs_520 (pc' := 521) rfl ?_
                      refine X.icmp_ne (tgt := 528) dL_hangs_521 ⟨by omega, by omega⟩ ⟨by omega, by omega⟩ (by decide) (pc' := 524) rfl (fun c521 => ?_) (fun c521 => ?_)
                      · refine X.iconst dL_hangs_528 (pc' := 529) rfl ?_
                        refine X.iadd dL_hangs_529 (pc' := 530) rfl ?_
                        refine X.gen (fun x26 hx26 => ?_)
                        refine X.istore (i := 10) (ls' := [some (rf x), some (vi nB), some (vi nW), none, none, some (vi 1), some (rf a), some (rf ((a + 1))), some (vi t), some (vi w2), some (vi x26), some (vi b), some (vi hd), none, none]) (hd := dL_hangs_530) (by decide) rfl rfl (pc' := 532) rfl ?_
                        refine J532 x26 ?_
                        have := cnt_out hg hb.1 (P := fun k => 0 < k ∧ aHe (lA L) t k ≠ -1 ∧ aHe (lA L) t k = aHe (lA L) t (k - 1)) (by (try dsimp only); omega)
                        omega
                      · refine X.iconst dL_hangs_524 (pc' := 525) rfl ?_
                        refine X.goto (tgt := 529) dL_hangs_525 (by decide) ?_
                        refine X.iadd dL_hangs_529 (pc' := 530) rfl ?_
                        refine X.gen (fun x27 hx27 => ?_)
                        refine X.istore (i := 10) (ls' := [some (rf x), some (vi nB), some (vi nW), none, none, some (vi 1), some (rf a), some (rf ((a + 1))), some (vi t), some (vi w2), some (vi x27), some (vi b), some (vi hd), none, none]) (hd := dL_hangs_530) (by decide) rfl rfl (pc' := 532) rfl ?_
                        refine J532 x27 ?_
                        have := cnt_in hg hb.1 (P := fun k => 0 < k ∧ aHe (lA L) t k ≠ -1 ∧ aHe (lA L) t k = aHe (lA L) t (k - 1)) (by (try dsimp only); omega)
                        omega
                    refine X.iload (i := 9) rfl dL_hangs_494 (pc' := 496) rfl ?_
                    refine X.iload (i := 12) rfl dL_hangs_496 (pc' := 498) rfl ?_
                    refine X.if_lt (tgt := 505) dL_hangs_498 ⟨by omega, by omega⟩ (by decide) (pc' := 501) rfl (fun c498 => ?_) (fun c498 => ?_)
                    · refine X.iconst dL_hangs_505 (pc' := 506) rfl ?_
                      refine X.iadd dL_hangs_506 (pc' := 507) rfl ?_
                      refine X.gen (fun x28 hx28 => ?_)
                      refine X.istore (i := 9) (ls' := [some (rf x), some (vi nB), some (vi nW), none, none, some (vi 1), some (rf a), some (rf ((a + 1))), some (vi t), some (vi x28), some (vi g), some (vi b), some (vi hd), none, none]) (hd := dL_hangs_507) (by decide) rfl rfl (pc' := 509) rfl ?_
                      refine J509 x28 ?_
                      have := cnt_out hw hb.1 (P := fun k => aHe (lA L) t k ≠ -1) (by (try dsimp only); omega)
                      omega
                    · refine X.iconst dL_hangs_501 (pc' := 502) rfl ?_
                      refine X.goto (tgt := 506) dL_hangs_502 (by decide) ?_
                      refine X.iadd dL_hangs_506 (pc' := 507) rfl ?_
                      refine X.gen (fun x29 hx29 => ?_)
                      refine X.istore (i := 9) (ls' := [some (rf x), some (vi nB), some (vi nW), none, none, some (vi 1), some (rf a), some (rf ((a + 1))), some (vi t), some (vi x29), some (vi g), some (vi b), some (vi hd), none, none]) (hd := dL_hangs_507) (by decide) rfl rfl (pc' := 509) rfl ?_
                      refine J509 x29 ?_
                      have := cnt_in hw hb.1 (P := fun k => aHe (lA L) t k ≠ -1) (by (try dsimp only); omega)
                      omega
              refine L472 _ 0 0 0 (Nat.lt_succ_self _) ?_
              exact ⟨by omega, rfl, rfl⟩
        refine X.mask (bs := [true, true, true, false, false, true, true, true, true, false, false, false, false, false, false]) (ls' := [some (rf x), some (vi nB), some (vi nW), none, none, some (vi 1), some (rf a), some (rf ((a + 1))), some (vi 0), none, none, none, none, none, none]) rfl ?_
        refine L451 _ 0 (Nat.lt_succ_self _) ?_
        omega
      · refine X.iload (i := 5) rfl dL_hangs_72 (pc' := 74) rfl ?_
        refine X.if_eq (tgt := 417) dL_hangs_74 ⟨by omega, by omega⟩ (by decide) (pc' := 77) rfl (fun c74 => by exfalso; omega) (fun c74 => ?_)
        refine X.aload_n (i := 0) rfl rfl dL_hangs_77 (pc' := 78) rfl ?_
        refine X.iload (i := 8) rfl dL_hangs_78 (pc' := 80) rfl ?_
        refine X.iconst dL_hangs_80 (pc' := 81) rfl ?_
        refine X.callSW (rm := rm_L_said0) (As := [rf x, vi k, vi 4]) (st := []) dL_hangs_81 ckS_said rfl rfl ⟨Nat.le_of_ble_eq_true rfl, Nat.le_of_ble_eq_true rfl⟩ (Nat.le_of_ble_eq_true rfl) (Nat.le_of_ble_eq_true rfl) (Nat.le_of_ble_eq_true rfl) (pc' := 84) rfl (k_L_said0 (hM.el hE1).1 ⟨by omega, by omega⟩ ⟨by omega, by omega⟩ (by omega)) (fun q30 hq30 eq30 => ?_)
        obtain ⟨rfl, wq30⟩ := eq30
        obtain rfl : q30 = some (vi (mCo (lA L) k)) := wq30.trans (by rw [if_pos (show k < aW (lA L) by omega)]; rfl)
        have to0 := mCo_rng (lA L) k
        refine X.gen (fun to hto => ?_)
        refine X.istore (i := 9) (ls' := [some (rf x), some (vi nB), some (vi nW), some (vi al), some (vi ne), some (vi 1), some (rf a), some (rf ((a + 1))), some (vi k), some (vi to), none, none, none, none, none]) (hd := dL_hangs_84) (by decide) rfl rfl (pc' := 86) rfl ?_
        refine X.aload_n (i := 0) rfl rfl dL_hangs_86 (pc' := 87) rfl ?_
        refine X.iload (i := 8) rfl dL_hangs_87 (pc' := 89) rfl ?_
        refine X.iconst dL_hangs_89 (pc' := 90) rfl ?_
        refine X.callSW (rm := rm_L_said0) (As := [rf x, vi k, vi 5]) (st := []) dL_hangs_90 ckS_said rfl rfl ⟨Nat.le_of_ble_eq_true rfl, Nat.le_of_ble_eq_true rfl⟩ (Nat.le_of_ble_eq_true rfl) (Nat.le_of_ble_eq_true rfl) (Nat.le_of_ble_eq_true rfl) (pc' := 93) rfl (k_L_said0 (hM.el hE1).1 ⟨by omega, by omega⟩ ⟨by omega, by omega⟩ (by omega)) (fun q31 hq31 eq31 => ?_)
        obtain ⟨rfl, wq31⟩ := eq31
        obtain rfl : q31 = some (vi (mHe (lA L) k)) := wq31.trans (by rw [if_pos (show k < aW (lA L) by omega)]; rfl)
        have he0 := mHe_rng (lA L) k
        refine X.gen (fun he hhe => ?_)
        refine X.istore (i := 10) (ls' := [some (rf x), some (vi nB), some (vi nW), some (vi al), some (vi ne), some (vi 1), some (rf a), some (rf ((a + 1))), some (vi k), some (vi to), some (vi he), none, none, none, none]) (hd := dL_hangs_93) (by decide) rfl rfl (pc' := 95) rfl ?_
        refine X.aload_n (i := 0) rfl rfl dL_hangs_95 (pc' := 96) rfl ?_
        refine X.iload (i := 8) rfl dL_hangs_96 (pc' := 98) rfl ?_
        refine X.iconst dL_hangs_98 (pc' := 99) rfl ?_
        refine X.callSW (rm := rm_L_said0) (As := [rf x, vi k, vi 3]) (st := []) dL_hangs_99 ckS_said rfl rfl ⟨Nat.le_of_ble_eq_true rfl, Nat.le_of_ble_eq_true rfl⟩ (Nat.le_of_ble_eq_true rfl) (Nat.le_of_ble_eq_true rfl) (Nat.le_of_ble_eq_true rfl) (pc' := 102) rfl (k_L_said0 (hM.el hE1).1 ⟨by omega, by omega⟩ ⟨by omega, by omega⟩ (by omega)) (fun q32 hq32 eq32 => ?_)
        obtain ⟨rfl, wq32⟩ := eq32
        obtain rfl : q32 = some (vi (aAt (lA L) k)) := wq32.trans (by rw [if_pos (show k < aW (lA L) by omega)]; rfl)
        have w3 := okW k (by omega) (by omega)
        have p3 := okP k (by omega) (by omega)
        refine X.gen (fun aw haw => ?_)
        refine X.istore (i := 11) (ls' := [some (rf x), some (vi nB), some (vi nW), some (vi al), some (vi ne), some (vi 1), some (rf a), some (rf ((a + 1))), some (vi k), some (vi to), some (vi he), some (vi aw), none, none, none]) (hd := dL_hangs_102) (by decide) rfl rfl (pc' := 104) rfl ?_
        have J119 : ∀ (al2 : Int), al2 = cnt (fun n => mHe (lA L) n = 63) (fun _ => inferInstance) (k + 1).toNat → X Ω RL cL_hangs 15 (some .boolean) false rm_L_hangs PR xNo 3 18 119 [some (rf x), some (vi nB), some (vi nW), some (vi al2), some (vi ne), some (vi 1), some (rf a), some (rf ((a + 1))), some (vi k), some (vi to), some (vi he), some (vi aw), none, none, none] [] hm := by
          intro al2 hal2
          refine X.iload (i := 4) rfl dL_hangs_119 (pc' := 121) rfl ?_
          have J134 : ∀ (ne2 : Int), ne2 = cnt (fun n => mHe (lA L) n = 0) (fun _ => inferInstance) (k + 1).toNat → X Ω RL cL_hangs 15 (some .boolean) false rm_L_hangs PR xNo 3 18 134 [some (rf x), some (vi nB), some (vi nW), some (vi al2), some (vi ne2), some (vi 1), some (rf a), some (rf ((a + 1))), some (vi k), some (vi to), some (vi he), some (vi aw), none, none, none] [] hm := by
            intro ne2 hne2
            refine X.iload (i := 10) rfl dL_hangs_134 (pc' := 136) rfl ?_
            refine X.iload (i := 9) rfl dL_hangs_136 (pc' := 138) rfl ?_
            refine X.iconst dL_hangs_138 (pc' := 139) rfl ?_
            refine X.ixor (z := -1 - to) (by rw [hto]; exact mCo_not (lA L) k) dL_hangs_139 (pc' := 140) rfl ?_
            refine X.iand (z := 0) (by rw [hhe, hto]; exact mHe_sub okA hI (by omega) (by omega)) dL_hangs_140 (pc' := 141) rfl ?_
            refine X.if_ne (tgt := 181) dL_hangs_141 ⟨by omega, by omega⟩ (by decide) (pc' := 144) rfl (fun c141 => by exfalso; omega) (fun c141 => ?_)
            refine X.iload (i := 11) rfl dL_hangs_144 (pc' := 146) rfl ?_
            refine X.if_lt (tgt := 181) dL_hangs_146 ⟨by omega, by omega⟩ (by decide) (pc' := 149) rfl (fun c146 => by exfalso; omega) (fun c146 => ?_)
            refine X.iload (i := 11) rfl dL_hangs_149 (pc' := 151) rfl ?_
            refine X.iload_n (i := 1) rfl rfl dL_hangs_151 (pc' := 152) rfl ?_
            refine X.icmp_ge (tgt := 181) dL_hangs_152 ⟨by omega, by omega⟩ ⟨by omega, by omega⟩ (by decide) (pc' := 155) rfl (fun c152 => by exfalso; omega) (fun c152 => ?_)
            refine X.aload_n (i := 0) rfl rfl dL_hangs_155 (pc' := 156) rfl ?_
            refine X.iload (i := 8) rfl dL_hangs_156 (pc' := 158) rfl ?_
            refine X.iconst dL_hangs_158 (pc' := 159) rfl ?_
            refine X.callSW (rm := rm_L_said0) (As := [rf x, vi k, vi 0]) (st := []) dL_hangs_159 ckS_said rfl rfl ⟨Nat.le_of_ble_eq_true rfl, Nat.le_of_ble_eq_true rfl⟩ (Nat.le_of_ble_eq_true rfl) (Nat.le_of_ble_eq_true rfl) (Nat.le_of_ble_eq_true rfl) (pc' := 162) rfl (k_L_said0 (hM.el hE1).1 ⟨by omega, by omega⟩ ⟨by omega, by omega⟩ (by omega)) (fun q33 hq33 eq33 => ?_)
            obtain ⟨rfl, wq33⟩ := eq33
            obtain rfl : q33 = some (vi (aSe (lA L) k)) := wq33.trans (by rw [if_pos (show k < aW (lA L) by omega)]; rfl)
            refine X.if_lt (tgt := 181) dL_hangs_162 ⟨by omega, by omega⟩ (by decide) (pc' := 165) rfl (fun c162 => by exfalso; omega) (fun c162 => ?_)
            refine X.aload_n (i := 0) rfl rfl dL_hangs_165 (pc' := 166) rfl ?_
            refine X.iload (i := 8) rfl dL_hangs_166 (pc' := 168) rfl ?_
            refine X.iconst dL_hangs_168 (pc' := 169) rfl ?_
            refine X.callSW (rm := rm_L_said0) (As := [rf x, vi k, vi 0]) (st := []) dL_hangs_169 ckS_said rfl rfl ⟨Nat.le_of_ble_eq_true rfl, Nat.le_of_ble_eq_true rfl⟩ (Nat.le_of_ble_eq_true rfl) (Nat.le_of_ble_eq_true rfl) (Nat.le_of_ble_eq_true rfl) (pc' := 172) rfl (k_L_said0 (hM.el hE1).1 ⟨by omega, by omega⟩ ⟨by omega, by omega⟩ (by omega)) (fun q34 hq34 eq34 => ?_)
            obtain ⟨rfl, wq34⟩ := eq34
            obtain rfl : q34 = some (vi (aSe (lA L) k)) := wq34.trans (by rw [if_pos (show k < aW (lA L) by omega)]; rfl)
            refine X.bipush (by decide +kernel) dL_hangs_172 (pc' := 174) rfl ?_
            refine X.icmp_ge (tgt := 181) dL_hangs_174 ⟨by omega, by omega⟩ ⟨by omega, by omega⟩ (by decide) (pc' := 177) rfl (fun c174 => by exfalso; omega) (fun c174 => ?_)
            refine X.iconst dL_hangs_177 (pc' := 178) rfl ?_
            refine X.goto (tgt := 182) dL_hangs_178 (by decide) ?_
            refine X.istore (i := 5) (ls' := [some (rf x), some (vi nB), some (vi nW), some (vi al2), some (vi ne2), some (vi 1), some (rf a), some (rf ((a + 1))), some (vi k), some (vi to), some (vi he), some (vi aw), none, none, none]) (hd := dL_hangs_182) (by decide) rfl rfl (pc' := 184) rfl ?_
            refine X.iconst dL_hangs_184 (pc' := 185) rfl ?_
            refine X.istore (i := 12) (ls' := [some (rf x), some (vi nB), some (vi nW), some (vi al2), some (vi ne2), some (vi 1), some (rf a), some (rf ((a + 1))), some (vi k), some (vi to), some (vi he), some (vi aw), some (vi 0), none, none]) (hd := dL_hangs_185) (by decide) rfl rfl (pc' := 187) rfl ?_
            have L187 : ∀ (n187 : Nat) (hn : xM) (j : Int), (6 - j).toNat < n187 → (HM hq4 hn a ∧ (0 ≤ j ∧ j ≤ 6) ∧ (∀ s, 0 ≤ s → s < j → mI hn a s = cnt (fun n => fh (lA L) s n ≠ -1) (fun _ => inferInstance) (k + 1).toNat) ∧ (∀ s, j ≤ s → s < 6 → mI hn a s = cnt (fun n => fh (lA L) s n ≠ -1) (fun _ => inferInstance) k.toNat) ∧ (∀ s, 0 ≤ s → s < 6 → mI hn (a + 1) s = cnt (fun n => aSe (lA L) n = s) (fun _ => inferInstance) k.toNat)) → X Ω RL cL_hangs 15 (some .boolean) false rm_L_hangs PR xNo 3 18 187 [some (rf x), some (vi nB), some (vi nW), some (vi al2), some (vi ne2), some (vi 1), some (rf a), some (rf ((a + 1))), some (vi k), some (vi to), some (vi he), some (vi aw), some (vi j), none, none] [] hn := by
              intro n187
              induction n187 with
              | zero => intro hn j hm _; exfalso; omega
              | succ n187 ih187 =>
                intro hn j hm187 hinv2
                obtain ⟨hM2, hj, hon1, hon2, how2⟩ := hinv2
                refine X.iload (i := 12) rfl dL_hangs_187 (pc' := 189) rfl ?_
                refine X.bipush (by decide +kernel) dL_hangs_189 (pc' := 191) rfl ?_
                refine X.icmp_ge (tgt := 392) dL_hangs_191 ⟨by omega, by omega⟩ ⟨by omega, by omega⟩ (by decide) (pc' := 194) rfl (fun c191 => ?_) (fun c191 => ?_)
                · refine X.iload (i := 5) rfl dL_hangs_392 (pc' := 394) rfl ?_
                  refine X.if_eq (tgt := 411) dL_hangs_394 ⟨by omega, by omega⟩ (by decide) (pc' := 397) rfl (fun c394 => by exfalso; omega) (fun c394 => ?_)
                  refine X.aload (i := 7) rfl dL_hangs_397 (pc' := 399) rfl ?_
                  refine X.aload_n (i := 0) rfl rfl dL_hangs_399 (pc' := 400) rfl ?_
                  refine X.iload (i := 8) rfl dL_hangs_400 (pc' := 402) rfl ?_
                  refine X.iconst dL_hangs_402 (pc' := 403) rfl ?_
                  refine X.callSW (rm := rm_L_said0) (As := [rf x, vi k, vi 0]) (st := [rf ((a + 1))]) dL_hangs_403 ckS_said rfl rfl ⟨Nat.le_of_ble_eq_true rfl, Nat.le_of_ble_eq_true rfl⟩ (Nat.le_of_ble_eq_true rfl) (Nat.le_of_ble_eq_true rfl) (Nat.le_of_ble_eq_true rfl) (pc' := 406) rfl (k_L_said0 (hM2.el hE1).1 ⟨by omega, by omega⟩ ⟨by omega, by omega⟩ (by omega)) (fun q35 hq35 eq35 => ?_)
                  obtain ⟨rfl, wq35⟩ := eq35
                  obtain rfl : q35 = some (vi (aSe (lA L) k)) := wq35.trans (by rw [if_pos (show k < aW (lA L) by omega)]; rfl)
                  refine X.dup2 rfl rfl dL_hangs_406 (pc' := 407) rfl ?_
                  refine X.iald (x := cnt (fun n => aSe (lA L) n = aSe (lA L) k) (fun _ => inferInstance) k.toNat) dL_hangs_407 hM2.2.2.2.2 (by omega) (by omega) ⟨by omega, by omega⟩ (how2 (aSe (lA L) k) (by omega) (by omega)) (pc' := 408) rfl (fun r36 => ?_)
                  obtain ⟨r36a, r36b⟩ := r36
                  have r36c := cnt_rng (fun n => aSe (lA L) n = aSe (lA L) k) (fun _ => inferInstance) k.toNat
                  refine X.iconst dL_hangs_408 (pc' := 409) rfl ?_
                  refine X.iadd dL_hangs_409 (pc' := 410) rfl ?_
                  refine X.iast dL_hangs_410 hM2.2.2.2.2 (by omega) (by omega) ⟨by omega, by omega⟩ ⟨by omega, by omega⟩ (pc' := 411) rfl ?_
                  refine X.genH (fun h37 hh37 => ?_)
                  have wh37 : ∀ (w0 : Nat) (w1 : Int), mI h37 w0 w1 = if w0 = (a + 1) ∧ w1 = aSe (lA L) k then (cnt (fun n => aSe (lA L) n = aSe (lA L) k) (fun _ => inferInstance) k.toNat) + 1 else mI hn w0 w1 := fun _ _ => by rw [hh37]; rfl
                  have S38 : HM hq4 h37 a := by rw [hh37]; exact hM2.w1
                  refine X.iinc (i := 8) (ls' := [some (rf x), some (vi nB), some (vi nW), some (vi al2), some (vi ne2), some (vi 1), some (rf a), some (rf ((a + 1))), some (vi (k + 1)), some (vi to), some (vi he), some (vi aw), some (vi j), none, none]) dL_hangs_411 rfl (by decide) rfl rfl (pc' := 414) rfl ?_
                  refine X.goto (tgt := 66) dL_hangs_414 (by decide) ?_
                  refine X.mask (bs := [true, true, true, true, true, true, true, true, true, false, false, false, false, false, false]) (ls' := [some (rf x), some (vi nB), some (vi nW), some (vi al2), some (vi ne2), some (vi 1), some (rf a), some (rf ((a + 1))), some (vi (k + 1)), none, none, none, none, none, none]) rfl ?_
                  refine ih66 h37 al2 ne2 (k + 1) (by omega) ?_
                  refine ⟨S38, by omega, hal2, hne2, fun s z1 z2 => ?_, fun s z1 z2 => ?_⟩
                  · rw [wh37, if_neg (by omega)]
                    exact hon1 s z1 (by omega)
                  · rw [wh37]
                    by_cases e : s = aSe (lA L) k
                    · subst e
                      rw [if_pos ⟨rfl, rfl⟩]
                      exact cnt_in rfl hk.1 rfl
                    · rw [if_neg (fun z => e z.2), how2 s z1 z2]
                      exact cnt_out rfl hk.1 (fun z => e z.symm)
                · refine X.iload (i := 5) rfl dL_hangs_194 (pc' := 196) rfl ?_
                  refine X.if_eq (tgt := 392) dL_hangs_196 ⟨by omega, by omega⟩ (by decide) (pc' := 199) rfl (fun c196 => by exfalso; omega) (fun c196 => ?_)
                  refine X.aload_n (i := 0) rfl rfl dL_hangs_199 (pc' := 200) rfl ?_
                  refine X.iload (i := 8) rfl dL_hangs_200 (pc' := 202) rfl ?_
                  refine X.iload (i := 12) rfl dL_hangs_202 (pc' := 204) rfl ?_
                  refine X.callSW (rm := rm_L_comes0) (As := [rf x, vi k, vi j]) (st := []) dL_hangs_204 ckS_comes rfl rfl ⟨Nat.le_of_ble_eq_true rfl, Nat.le_of_ble_eq_true rfl⟩ (Nat.le_of_ble_eq_true rfl) (Nat.le_of_ble_eq_true rfl) (Nat.le_of_ble_eq_true rfl) (pc' := 207) rfl (k_L_comes0 (hM2.el hE1).1 ⟨by omega, by omega⟩ ⟨by omega, by omega⟩ (by omega)) (fun q39 hq39 eq39 => ?_)
                  obtain ⟨rfl, wq39⟩ := eq39
                  obtain rfl : q39 = some (vi (aCo (lA L) j k)) := wq39.trans (by rw [if_pos (show k < aW (lA L) by omega)])
                  have hC := okC j k (by omega) (by omega) (by omega) (by omega)
                  refine X.gen (fun co hco => ?_)
                  refine X.istore (i := 13) (ls' := [some (rf x), some (vi nB), some (vi nW), some (vi al2), some (vi ne2), some (vi 1), some (rf a), some (rf ((a + 1))), some (vi k), some (vi to), some (vi he), some (vi aw), some (vi j), some (vi co), none]) (hd := dL_hangs_207) (by decide) rfl rfl (pc' := 209) rfl ?_
                  refine X.aload_n (i := 0) rfl rfl dL_hangs_209 (pc' := 210) rfl ?_
                  refine X.iload (i := 8) rfl dL_hangs_210 (pc' := 212) rfl ?_
                  refine X.iload (i := 12) rfl dL_hangs_212 (pc' := 214) rfl ?_
                  refine X.callSW (rm := rm_L_whyNot0) (As := [rf x, vi k, vi j]) (st := []) dL_hangs_214 ckS_whyNot rfl rfl ⟨Nat.le_of_ble_eq_true rfl, Nat.le_of_ble_eq_true rfl⟩ (Nat.le_of_ble_eq_true rfl) (Nat.le_of_ble_eq_true rfl) (Nat.le_of_ble_eq_true rfl) (pc' := 217) rfl (k_L_whyNot0 (hM2.el hE1).1 ⟨by omega, by omega⟩ ⟨by omega, by omega⟩ (by omega)) (fun q40 hq40 eq40 => ?_)
                  obtain ⟨rfl, wq40⟩ := eq40
                  obtain rfl : q40 = some (vi (why (lA L) k j)) := wq40.trans (by rw [if_pos (show k < aW (lA L) by omega)])
                  have hwy2 := why_all (lA L) k j
                  have hcf := fun z => co_of_fh okA hI (s := j) (n := k) (by omega) (by omega) (by omega) (by omega) z
                  refine X.gen (fun wy hwy => ?_)
                  refine X.istore (i := 14) (ls' := [some (rf x), some (vi nB), some (vi nW), some (vi al2), some (vi ne2), some (vi 1), some (rf a), some (rf ((a + 1))), some (vi k), some (vi to), some (vi he), some (vi aw), some (vi j), some (vi co), some (vi wy)]) (hd := dL_hangs_217) (by decide) rfl rfl (pc' := 219) rfl ?_
                  obtain ⟨b1, hb1, hb1c⟩ := mCo_bit (lA L) k (s := j) (by omega) (by omega)
                  obtain ⟨b2, hb2, hb2c⟩ := mHe_bit (lA L) k (s := j) (by omega) (by omega)
                  rw [← hto] at hb1
                  rw [← hhe] at hb2
                  have J371 : True → X Ω RL cL_hangs 15 (some .boolean) false rm_L_hangs PR xNo 3 18 371 [some (rf x), some (vi nB), some (vi nW), some (vi al2), some (vi ne2), some (vi 1), some (rf a), some (rf ((a + 1))), some (vi k), some (vi to), some (vi he), some (vi aw), some (vi j), none, none] [] hn := by
                    intro _
                    refine X.aload (i := 6) rfl dL_hangs_371 (pc' := 373) rfl ?_
                    refine X.iload (i := 12) rfl dL_hangs_373 (pc' := 375) rfl ?_
                    refine X.dup2 rfl rfl dL_hangs_375 (pc' := 376) rfl ?_
                    refine X.iald (x := cnt (fun n => fh (lA L) j n ≠ -1) (fun _ => inferInstance) k.toNat) dL_hangs_376 hM2.2.2.2.1 (by omega) (by omega) ⟨by omega, by omega⟩ (hon2 j (by omega) (by omega)) (pc' := 377) rfl (fun r41 => ?_)
                    obtain ⟨r41a, r41b⟩ := r41
                    have r41c := cnt_rng (fun n => fh (lA L) j n ≠ -1) (fun _ => inferInstance) k.toNat
                    refine X.iload (i := 10) rfl dL_hangs_377 (pc' := 379) rfl ?_
                    refine X.iload (i := 12) rfl dL_hangs_379 (pc' := 381) rfl ?_
                    refine X.ishr (z := shz he j) (shz_eq he j) dL_hangs_381 (pc' := 382) rfl ?_
                    refine X.iconst dL_hangs_382 (pc' := 383) rfl ?_
                    refine X.iand (z := b2) hb2 dL_hangs_383 (pc' := 384) rfl ?_
                    refine X.iadd dL_hangs_384 (pc' := 385) rfl ?_
                    refine X.iast dL_hangs_385 hM2.2.2.2.1 (by omega) (by omega) ⟨by omega, by omega⟩ ⟨by omega, by omega⟩ (pc' := 386) rfl ?_
                    refine X.genH (fun h42 hh42 => ?_)
                    have wh42 : ∀ (w0 : Nat) (w1 : Int), mI h42 w0 w1 = if w0 = a ∧ w1 = j then (cnt (fun n => fh (lA L) j n ≠ -1) (fun _ => inferInstance) k.toNat) + b2 else mI hn w0 w1 := fun _ _ => by rw [hh42]; rfl
                    have S43 : HM hq4 h42 a := by rw [hh42]; exact hM2.w0
                    refine X.iinc (i := 12) (ls' := [some (rf x), some (vi nB), some (vi nW), some (vi al2), some (vi ne2), some (vi 1), some (rf a), some (rf ((a + 1))), some (vi k), some (vi to), some (vi he), some (vi aw), some (vi (j + 1)), none, none]) dL_hangs_386 rfl (by decide) rfl rfl (pc' := 389) rfl ?_
                    refine X.goto (tgt := 187) dL_hangs_389 (by decide) ?_
                    refine ih187 h42 (j + 1) (by omega) ?_
                    refine ⟨S43, by omega, fun s z1 z2 => ?_, fun s z1 z2 => ?_, fun s z1 z2 => ?_⟩
                    · rw [wh42]
                      by_cases e : s = j
                      · subst e
                        rw [if_pos ⟨rfl, rfl⟩]
                        rcases hb2c with ⟨c1, c2⟩ | ⟨c1, c2⟩
                        · have := cnt_in (c := _) rfl hk.1 (P := fun n => fh (lA L) s n ≠ -1) (d := fun _ => inferInstance) c1
                          omega
                        · have := cnt_out (c := _) rfl hk.1 (P := fun n => fh (lA L) s n ≠ -1) (d := fun _ => inferInstance) c1
                          omega
                      · rw [if_neg (fun z => e z.2)]
                        exact hon1 s z1 (by omega)
                    · rw [wh42, if_neg (by omega)]
                      exact hon2 s (by omega) z2
                    · rw [wh42, if_neg (by omega)]
                      exact how2 s z1 z2
                  refine X.iload (i := 13) rfl dL_hangs_219 (pc' := 221) rfl ?_
                  refine X.if_lt (tgt := 228) dL_hangs_221 ⟨by omega, by omega⟩ (by decide) (pc' := 224) rfl (fun c221 => ?_) (fun c221 => ?_)
                  · refine X.iconst dL_hangs_228 (pc' := 229) rfl ?_
                    refine X.iload (i := 9) rfl dL_hangs_229 (pc' := 231) rfl ?_
                    refine X.iload (i := 12) rfl dL_hangs_231 (pc' := 233) rfl ?_
                    refine X.ishr (z := shz to j) (shz_eq to j) dL_hangs_233 (pc' := 234) rfl ?_
                    refine X.iconst dL_hangs_234 (pc' := 235) rfl ?_
                    refine X.iand (z := b1) hb1 dL_hangs_235 (pc' := 236) rfl ?_
                    refine X.iconst dL_hangs_236 (pc' := 237) rfl ?_
                    refine X.icmp_ne (tgt := 244) dL_hangs_237 ⟨by omega, by omega⟩ ⟨by omega, by omega⟩ (by decide) (pc' := 240) rfl (fun c237 => ?_) (fun c237 => by exfalso; omega)
                    refine X.iconst dL_hangs_244 (pc' := 245) rfl ?_
                    refine X.icmp_ne (tgt := 303) dL_hangs_245 ⟨by omega, by omega⟩ ⟨by omega, by omega⟩ (by decide) (pc' := 248) rfl (fun c245 => by exfalso; omega) (fun c245 => ?_)
                    refine X.iload (i := 13) rfl dL_hangs_248 (pc' := 250) rfl ?_
                    refine X.if_lt (tgt := 270) dL_hangs_250 ⟨by omega, by omega⟩ (by decide) (pc' := 253) rfl (fun c250 => ?_) (fun c250 => by exfalso; omega)
                    refine X.iload (i := 14) rfl dL_hangs_270 (pc' := 272) rfl ?_
                    refine X.if_ne (tgt := 279) dL_hangs_272 ⟨by omega, by omega⟩ (by decide) (pc' := 275) rfl (fun c272 => ?_) (fun c272 => by exfalso; omega)
                    refine X.iconst dL_hangs_279 (pc' := 280) rfl ?_
                    refine X.iload (i := 10) rfl dL_hangs_280 (pc' := 282) rfl ?_
                    refine X.iload (i := 12) rfl dL_hangs_282 (pc' := 284) rfl ?_
                    refine X.ishr (z := shz he j) (shz_eq he j) dL_hangs_284 (pc' := 285) rfl ?_
                    refine X.iconst dL_hangs_285 (pc' := 286) rfl ?_
                    refine X.iand (z := b2) hb2 dL_hangs_286 (pc' := 287) rfl ?_
                    refine X.iconst dL_hangs_287 (pc' := 288) rfl ?_
                    refine X.icmp_ne (tgt := 295) dL_hangs_288 ⟨by omega, by omega⟩ ⟨by omega, by omega⟩ (by decide) (pc' := 291) rfl (fun c288 => ?_) (fun c288 => by exfalso; omega)
                    refine X.iconst dL_hangs_295 (pc' := 296) rfl ?_
                    refine X.icmp_ne (tgt := 303) dL_hangs_296 ⟨by omega, by omega⟩ ⟨by omega, by omega⟩ (by decide) (pc' := 299) rfl (fun c296 => by exfalso; omega) (fun c296 => ?_)
                    refine X.iconst dL_hangs_299 (pc' := 300) rfl ?_
                    refine X.goto (tgt := 304) dL_hangs_300 (by decide) ?_
                    refine X.istore (i := 5) (ls' := [some (rf x), some (vi nB), some (vi nW), some (vi al2), some (vi ne2), some (vi 1), some (rf a), some (rf ((a + 1))), some (vi k), some (vi to), some (vi he), some (vi aw), some (vi j), some (vi co), some (vi wy)]) (hd := dL_hangs_304) (by decide) rfl rfl (pc' := 306) rfl ?_
                    refine X.iload (i := 5) rfl dL_hangs_306 (pc' := 308) rfl ?_
                    refine X.if_eq (tgt := 368) dL_hangs_308 ⟨by omega, by omega⟩ (by decide) (pc' := 311) rfl (fun c308 => by exfalso; omega) (fun c308 => ?_)
                    refine X.iload (i := 13) rfl dL_hangs_311 (pc' := 313) rfl ?_
                    refine X.if_ge (tgt := 322) dL_hangs_313 ⟨by omega, by omega⟩ (by decide) (pc' := 316) rfl (fun c313 => by exfalso; omega) (fun c313 => ?_)
                    refine X.iload (i := 14) rfl dL_hangs_316 (pc' := 318) rfl ?_
                    refine X.iconst dL_hangs_318 (pc' := 319) rfl ?_
                    refine X.icmp_ne (tgt := 368) dL_hangs_319 ⟨by omega, by omega⟩ ⟨by omega, by omega⟩ (by decide) (pc' := 322) rfl (fun c319 => by exfalso; omega) (fun c319 => ?_)
                    refine X.iload (i := 14) rfl dL_hangs_322 (pc' := 324) rfl ?_
                    refine X.if_eq (tgt := 348) dL_hangs_324 ⟨by omega, by omega⟩ (by decide) (pc' := 327) rfl (fun c324 => by exfalso; omega) (fun c324 => ?_)
                    refine X.iload (i := 13) rfl dL_hangs_327 (pc' := 329) rfl ?_
                    refine X.if_lt (tgt := 348) dL_hangs_329 ⟨by omega, by omega⟩ (by decide) (pc' := 332) rfl (fun c329 => ?_) (fun c329 => by exfalso; omega)
                    refine X.iload (i := 14) rfl dL_hangs_348 (pc' := 350) rfl ?_
                    refine X.if_ne (tgt := 364) dL_hangs_350 ⟨by omega, by omega⟩ (by decide) (pc' := 353) rfl (fun c350 => ?_) (fun c350 => by exfalso; omega)
                    refine X.iconst dL_hangs_364 (pc' := 365) rfl ?_
                    refine X.goto (tgt := 369) dL_hangs_365 (by decide) ?_
                    refine X.istore (i := 5) (ls' := [some (rf x), some (vi nB), some (vi nW), some (vi al2), some (vi ne2), some (vi 1), some (rf a), some (rf ((a + 1))), some (vi k), some (vi to), some (vi he), some (vi aw), some (vi j), some (vi co), some (vi wy)]) (hd := dL_hangs_369) (by decide) rfl rfl (pc' := 371) rfl ?_
                    refine X.mask (bs := [true, true, true, true, true, true, true, true, true, true, true, true, true, false, false]) (ls' := [some (rf x), some (vi nB), some (vi nW), some (vi al2), some (vi ne2), some (vi 1), some (rf a), some (rf ((a + 1))), some (vi k), some (vi to), some (vi he), some (vi aw), some (vi j), none, none]) rfl ?_
                    refine J371  ?_
                    trivial
                  · refine X.iconst dL_hangs_224 (pc' := 225) rfl ?_
                    refine X.goto (tgt := 229) dL_hangs_225 (by decide) ?_
                    refine X.iload (i := 9) rfl dL_hangs_229 (pc' := 231) rfl ?_
                    refine X.iload (i := 12) rfl dL_hangs_231 (pc' := 233) rfl ?_
                    refine X.ishr (z := shz to j) (shz_eq to j) dL_hangs_233 (pc' := 234) rfl ?_
                    refine X.iconst dL_hangs_234 (pc' := 235) rfl ?_
                    refine X.iand (z := b1) hb1 dL_hangs_235 (pc' := 236) rfl ?_
                    refine X.iconst dL_hangs_236 (pc' := 237) rfl ?_
                    refine X.icmp_ne (tgt := 244) dL_hangs_237 ⟨by omega, by omega⟩ ⟨by omega, by omega⟩ (by decide) (pc' := 240) rfl (fun c237 => by exfalso; omega) (fun c237 => ?_)
                    refine X.iconst dL_hangs_240 (pc' := 241) rfl ?_
                    refine X.goto (tgt := 245) dL_hangs_241 (by decide) ?_
                    refine X.icmp_ne (tgt := 303) dL_hangs_245 ⟨by omega, by omega⟩ ⟨by omega, by omega⟩ (by decide) (pc' := 248) rfl (fun c245 => by exfalso; omega) (fun c245 => ?_)
                    refine X.iload (i := 13) rfl dL_hangs_248 (pc' := 250) rfl ?_
                    refine X.if_lt (tgt := 270) dL_hangs_250 ⟨by omega, by omega⟩ (by decide) (pc' := 253) rfl (fun c250 => by exfalso; omega) (fun c250 => ?_)
                    refine X.iload (i := 13) rfl dL_hangs_253 (pc' := 255) rfl ?_
                    refine X.iload (i := 11) rfl dL_hangs_255 (pc' := 257) rfl ?_
                    refine X.icmp_lt (tgt := 303) dL_hangs_257 ⟨by omega, by omega⟩ ⟨by omega, by omega⟩ (by decide) (pc' := 260) rfl (fun c257 => by exfalso; omega) (fun c257 => ?_)
                    refine X.iload (i := 13) rfl dL_hangs_260 (pc' := 262) rfl ?_
                    refine X.iload (i := 11) rfl dL_hangs_262 (pc' := 264) rfl ?_
                    refine X.bipush (by decide +kernel) dL_hangs_264 (pc' := 266) rfl ?_
                    refine X.iadd dL_hangs_266 (pc' := 267) rfl ?_
                    refine X.icmp_gt (tgt := 303) dL_hangs_267 ⟨by omega, by omega⟩ ⟨by omega, by omega⟩ (by decide) (pc' := 270) rfl (fun c267 => by exfalso; omega) (fun c267 => ?_)
                    refine X.iload (i := 14) rfl dL_hangs_270 (pc' := 272) rfl ?_
                    refine X.if_ne (tgt := 279) dL_hangs_272 ⟨by omega, by omega⟩ (by decide) (pc' := 275) rfl (fun c272 => ?_) (fun c272 => ?_)
                    · refine X.iconst dL_hangs_279 (pc' := 280) rfl ?_
                      refine X.iload (i := 10) rfl dL_hangs_280 (pc' := 282) rfl ?_
                      refine X.iload (i := 12) rfl dL_hangs_282 (pc' := 284) rfl ?_
                      refine X.ishr (z := shz he j) (shz_eq he j) dL_hangs_284 (pc' := 285) rfl ?_
                      refine X.iconst dL_hangs_285 (pc' := 286) rfl ?_
                      refine X.iand (z := b2) hb2 dL_hangs_286 (pc' := 287) rfl ?_
                      refine X.iconst dL_hangs_287 (pc' := 288) rfl ?_
                      refine X.icmp_ne (tgt := 295) dL_hangs_288 ⟨by omega, by omega⟩ ⟨by omega, by omega⟩ (by decide) (pc' := 291) rfl (fun c288 => ?_) (fun c288 => by exfalso; omega)
                      refine X.iconst dL_hangs_295 (pc' := 296) rfl ?_
                      refine X.icmp_ne (tgt := 303) dL_hangs_296 ⟨by omega, by omega⟩ ⟨by omega, by omega⟩ (by decide) (pc' := 299) rfl (fun c296 => by exfalso; omega) (fun c296 => ?_)
                      refine X.iconst dL_hangs_299 (pc' := 300) rfl ?_
                      refine X.goto (tgt := 304) dL_hangs_300 (by decide) ?_
                      refine X.istore (i := 5) (ls' := [some (rf x), some (vi nB), some (vi nW), some (vi al2), some (vi ne2), some (vi 1), some (rf a), some (rf ((a + 1))), some (vi k), some (vi to), some (vi he), some (vi aw), some (vi j), some (vi co), some (vi wy)]) (hd := dL_hangs_304) (by decide) rfl rfl (pc' := 306) rfl ?_
                      refine X.iload (i := 5) rfl dL_hangs_306 (pc' := 308) rfl ?_
                      refine X.if_eq (tgt := 368) dL_hangs_308 ⟨by omega, by omega⟩ (by decide) (pc' := 311) rfl (fun c308 => by exfalso; omega) (fun c308 => ?_)
                      refine X.iload (i := 13) rfl dL_hangs_311 (pc' := 313) rfl ?_
                      refine X.if_ge (tgt := 322) dL_hangs_313 ⟨by omega, by omega⟩ (by decide) (pc' := 316) rfl (fun c313 => ?_) (fun c313 => by exfalso; omega)
                      refine X.iload (i := 14) rfl dL_hangs_322 (pc' := 324) rfl ?_
                      refine X.if_eq (tgt := 348) dL_hangs_324 ⟨by omega, by omega⟩ (by decide) (pc' := 327) rfl (fun c324 => by exfalso; omega) (fun c324 => ?_)
                      refine X.iload (i := 13) rfl dL_hangs_327 (pc' := 329) rfl ?_
                      refine X.if_lt (tgt := 348) dL_hangs_329 ⟨by omega, by omega⟩ (by decide) (pc' := 332) rfl (fun c329 => by exfalso; omega) (fun c329 => ?_)
                      refine X.iload (i := 14) rfl dL_hangs_332 (pc' := 334) rfl ?_
                      refine X.iload (i := 13) rfl dL_hangs_334 (pc' := 336) rfl ?_
                      refine X.iload_n (i := 1) rfl rfl dL_hangs_336 (pc' := 337) rfl ?_
                      refine X.icmp_lt (tgt := 344) dL_hangs_337 ⟨by omega, by omega⟩ ⟨by omega, by omega⟩ (by decide) (pc' := 340) rfl (fun c337 => ?_) (fun c337 => ?_)
                      · refine X.iconst dL_hangs_344 (pc' := 345) rfl ?_
                        refine X.icmp_ne (tgt := 368) dL_hangs_345 ⟨by omega, by omega⟩ ⟨by omega, by omega⟩ (by decide) (pc' := 348) rfl (fun c345 => by exfalso; omega) (fun c345 => ?_)
                        refine X.iload (i := 14) rfl dL_hangs_348 (pc' := 350) rfl ?_
                        refine X.if_ne (tgt := 364) dL_hangs_350 ⟨by omega, by omega⟩ (by decide) (pc' := 353) rfl (fun c350 => ?_) (fun c350 => by exfalso; omega)
                        refine X.iconst dL_hangs_364 (pc' := 365) rfl ?_
                        refine X.goto (tgt := 369) dL_hangs_365 (by decide) ?_
                        refine X.istore (i := 5) (ls' := [some (rf x), some (vi nB), some (vi nW), some (vi al2), some (vi ne2), some (vi 1), some (rf a), some (rf ((a + 1))), some (vi k), some (vi to), some (vi he), some (vi aw), some (vi j), some (vi co), some (vi wy)]) (hd := dL_hangs_369) (by decide) rfl rfl (pc' := 371) rfl ?_
                        refine X.mask (bs := [true, true, true, true, true, true, true, true, true, true, true, true, true, false, false]) (ls' := [some (rf x), some (vi nB), some (vi nW), some (vi al2), some (vi ne2), some (vi 1), some (rf a), some (rf ((a + 1))), some (vi k), some (vi to), some (vi he), some (vi aw), some (vi j), none, none]) rfl ?_
                        refine J371  ?_
                        trivial
                      · refine X.iconst dL_hangs_340 (pc' := 341) rfl ?_
                        refine X.goto (tgt := 345) dL_hangs_341 (by decide) ?_
                        refine X.icmp_ne (tgt := 368) dL_hangs_345 ⟨by omega, by omega⟩ ⟨by omega, by omega⟩ (by decide) (pc' := 348) rfl (fun c345 => by exfalso; omega) (fun c345 => ?_)
                        refine X.iload (i := 14) rfl dL_hangs_348 (pc' := 350) rfl ?_
                        refine X.if_ne (tgt := 364) dL_hangs_350 ⟨by omega, by omega⟩ (by decide) (pc' := 353) rfl (fun c350 => ?_) (fun c350 => by exfalso; omega)
                        refine X.iconst dL_hangs_364 (pc' := 365) rfl ?_
                        refine X.goto (tgt := 369) dL_hangs_365 (by decide) ?_
                        refine X.istore (i := 5) (ls' := [some (rf x), some (vi nB), some (vi nW), some (vi al2), some (vi ne2), some (vi 1), some (rf a), some (rf ((a + 1))), some (vi k), some (vi to), some (vi he), some (vi aw), some (vi j), some (vi co), some (vi wy)]) (hd := dL_hangs_369) (by decide) rfl rfl (pc' := 371) rfl ?_
                        refine X.mask (bs := [true, true, true, true, true, true, true, true, true, true, true, true, true, false, false]) (ls' := [some (rf x), some (vi nB), some (vi nW), some (vi al2), some (vi ne2), some (vi 1), some (rf a), some (rf ((a + 1))), some (vi k), some (vi to), some (vi he), some (vi aw), some (vi j), none, none]) rfl ?_
                        refine J371  ?_
                        trivial
                    · refine X.iconst dL_hangs_275 (pc' := 276) rfl ?_
                      refine X.goto (tgt := 280) dL_hangs_276 (by decide) ?_
                      refine X.iload (i := 10) rfl dL_hangs_280 (pc' := 282) rfl ?_
                      refine X.iload (i := 12) rfl dL_hangs_282 (pc' := 284) rfl ?_
                      refine X.ishr (z := shz he j) (shz_eq he j) dL_hangs_284 (pc' := 285) rfl ?_
                      refine X.iconst dL_hangs_285 (pc' := 286) rfl ?_
                      refine X.iand (z := b2) hb2 dL_hangs_286 (pc' := 287) rfl ?_
                      refine X.iconst dL_hangs_287 (pc' := 288) rfl ?_
                      refine X.icmp_ne (tgt := 295) dL_hangs_288 ⟨by omega, by omega⟩ ⟨by omega, by omega⟩ (by decide) (pc' := 291) rfl (fun c288 => by exfalso; omega) (fun c288 => ?_)
                      refine X.iconst dL_hangs_291 (pc' := 292) rfl ?_
                      refine X.goto (tgt := 296) dL_hangs_292 (by decide) ?_
                      refine X.icmp_ne (tgt := 303) dL_hangs_296 ⟨by omega, by omega⟩ ⟨by omega, by omega⟩ (by decide) (pc' := 299) rfl (fun c296 => by exfalso; omega) (fun c296 => ?_)
                      refine X.iconst dL_hangs_299 (pc' := 300) rfl ?_
                      refine X.goto (tgt := 304) dL_hangs_300 (by decide) ?_
                      refine X.istore (i := 5) (ls' := [some (rf x), some (vi nB), some (vi nW), some (vi al2), some (vi ne2), some (vi 1), some (rf a), some (rf ((a + 1))), some (vi k), some (vi to), some (vi he), some (vi aw), some (vi j), some (vi co), some (vi wy)]) (hd := dL_hangs_304) (by decide) rfl rfl (pc' := 306) rfl ?_
                      refine X.iload (i := 5) rfl dL_hangs_306 (pc' := 308) rfl ?_
                      refine X.if_eq (tgt := 368) dL_hangs_308 ⟨by omega, by omega⟩ (by decide) (pc' := 311) rfl (fun c308 => by exfalso; omega) (fun c308 => ?_)
                      refine X.iload (i := 13) rfl dL_hangs_311 (pc' := 313) rfl ?_
                      refine X.if_ge (tgt := 322) dL_hangs_313 ⟨by omega, by omega⟩ (by decide) (pc' := 316) rfl (fun c313 => ?_) (fun c313 => by exfalso; omega)
                      refine X.iload (i := 14) rfl dL_hangs_322 (pc' := 324) rfl ?_
                      refine X.if_eq (tgt := 348) dL_hangs_324 ⟨by omega, by omega⟩ (by decide) (pc' := 327) rfl (fun c324 => ?_) (fun c324 => by exfalso; omega)
                      refine X.iload (i := 14) rfl dL_hangs_348 (pc' := 350) rfl ?_
                      refine X.if_ne (tgt := 364) dL_hangs_350 ⟨by omega, by omega⟩ (by decide) (pc' := 353) rfl (fun c350 => by exfalso; omega) (fun c350 => ?_)
                      refine X.aload_n (i := 0) rfl rfl dL_hangs_353 (pc' := 354) rfl ?_
                      refine X.iload (i := 8) rfl dL_hangs_354 (pc' := 356) rfl ?_
                      refine X.iload (i := 12) rfl dL_hangs_356 (pc' := 358) rfl ?_
                      refine X.callSW (rm := rm_L_heardIn0) (As := [rf x, vi k, vi j]) (st := []) dL_hangs_358 ckS_heardIn rfl rfl ⟨Nat.le_of_ble_eq_true rfl, Nat.le_of_ble_eq_true rfl⟩ (Nat.le_of_ble_eq_true rfl) (Nat.le_of_ble_eq_true rfl) (Nat.le_of_ble_eq_true rfl) (pc' := 361) rfl (k_L_heardIn0 (hM2.el hE1).1 ⟨by omega, by omega⟩ ⟨by omega, by omega⟩ (by omega)) (fun q44 hq44 eq44 => ?_)
                      obtain ⟨rfl, wq44⟩ := eq44
                      obtain rfl : q44 = some (vi 0) := wq44.trans (by rw [if_pos (show k < aW (lA L) by omega), sil_0 (by omega)])
                      refine X.if_ne (tgt := 368) dL_hangs_361 ⟨by omega, by omega⟩ (by decide) (pc' := 364) rfl (fun c361 => by exfalso; omega) (fun c361 => ?_)
                      refine X.iconst dL_hangs_364 (pc' := 365) rfl ?_
                      refine X.goto (tgt := 369) dL_hangs_365 (by decide) ?_
                      refine X.istore (i := 5) (ls' := [some (rf x), some (vi nB), some (vi nW), some (vi al2), some (vi ne2), some (vi 1), some (rf a), some (rf ((a + 1))), some (vi k), some (vi to), some (vi he), some (vi aw), some (vi j), some (vi co), some (vi wy)]) (hd := dL_hangs_369) (by decide) rfl rfl (pc' := 371) rfl ?_
                      refine X.mask (bs := [true, true, true, true, true, true, true, true, true, true, true, true, true, false, false]) (ls' := [some (rf x), some (vi nB), some (vi nW), some (vi al2), some (vi ne2), some (vi 1), some (rf a), some (rf ((a + 1))), some (vi k), some (vi to), some (vi he), some (vi aw), some (vi j), none, none]) rfl ?_
                      refine J371  ?_
                      trivial
            refine L187 _ hm 0 (Nat.lt_succ_self _) ?_
            exact ⟨hM, by omega, fun s z1 z2 => absurd z2 (by omega), fun s z1 z2 => hon s z1 z2, hwn⟩
          refine X.iload (i := 10) rfl dL_hangs_121 (pc' := 123) rfl ?_
          refine X.if_ne (tgt := 130) dL_hangs_123 ⟨by omega, by omega⟩ (by decide) (pc' := 126) rfl (fun c123 => ?_) (fun c123 => ?_)
          · refine X.iconst dL_hangs_130 (pc' := 131) rfl ?_
            refine X.iadd dL_hangs_131 (pc' := 132) rfl ?_
            refine X.gen (fun x45 hx45 => ?_)
            refine X.istore (i := 4) (ls' := [some (rf x), some (vi nB), some (vi nW), some (vi al2), some (vi x45), some (vi 1), some (rf a), some (rf ((a + 1))), some (vi k), some (vi to), some (vi he), some (vi aw), none, none, none]) (hd := dL_hangs_132) (by decide) rfl rfl (pc' := 134) rfl ?_
            refine J134 x45 ?_
            have := cnt_out hne hk.1 (P := fun n => mHe (lA L) n = 0) (by (try dsimp only); omega)
            omega
          · refine X.iconst dL_hangs_126 (pc' := 127) rfl ?_
            refine X.goto (tgt := 131) dL_hangs_127 (by decide) ?_
            refine X.iadd dL_hangs_131 (pc' := 132) rfl ?_
            refine X.gen (fun x46 hx46 => ?_)
            refine X.istore (i := 4) (ls' := [some (rf x), some (vi nB), some (vi nW), some (vi al2), some (vi x46), some (vi 1), some (rf a), some (rf ((a + 1))), some (vi k), some (vi to), some (vi he), some (vi aw), none, none, none]) (hd := dL_hangs_132) (by decide) rfl rfl (pc' := 134) rfl ?_
            refine J134 x46 ?_
            have := cnt_in hne hk.1 (P := fun n => mHe (lA L) n = 0) (by (try dsimp only); omega)
            omega
        refine X.iload_n (i := 3) rfl rfl dL_hangs_104 (pc' := 105) rfl ?_
        refine X.iload (i := 10) rfl dL_hangs_105 (pc' := 107) rfl ?_
        refine X.bipush (by decide +kernel) dL_hangs_107 (pc' := 109) rfl ?_
        refine X.icmp_ne (tgt := 116) dL_hangs_109 ⟨by omega, by omega⟩ ⟨by omega, by omega⟩ (by decide) (pc' := 112) rfl (fun c109 => ?_) (fun c109 => ?_)
        · refine X.iconst dL_hangs_116 (pc' := 117) rfl ?_
          refine X.iadd dL_hangs_117 (pc' := 118) rfl ?_
          refine X.gen (fun x47 hx47 => ?_)
          refine X.istore_n (i := 3) (ls' := [some (rf x), some (vi nB), some (vi nW), some (vi x47), some (vi ne), some (vi 1), some (rf a), some (rf ((a + 1))), some (vi k), some (vi to), some (vi he), some (vi aw), none, none, none]) (hi := rfl) (hd := dL_hangs_118) (by decide) rfl rfl (pc' := 119) rfl ?_
          refine J119 x47 ?_
          have := cnt_out hal hk.1 (P := fun n => mHe (lA L) n = 63) (by (try dsimp only); omega)
          omega
        · refine X.iconst dL_hangs_112 (pc' := 113) rfl ?_
          refine X.goto (tgt := 117) dL_hangs_113 (by decide) ?_
          refine X.iadd dL_hangs_117 (pc' := 118) rfl ?_
          refine X.gen (fun x48 hx48 => ?_)
          refine X.istore_n (i := 3) (ls' := [some (rf x), some (vi nB), some (vi nW), some (vi x48), some (vi ne), some (vi 1), some (rf a), some (rf ((a + 1))), some (vi k), some (vi to), some (vi he), some (vi aw), none, none, none]) (hi := rfl) (hd := dL_hangs_118) (by decide) rfl rfl (pc' := 119) rfl ?_
          refine J119 x48 ?_
          have := cnt_in hal hk.1 (P := fun n => mHe (lA L) n = 63) (by (try dsimp only); omega)
          omega
  refine L66 _ h6 0 0 0 (Nat.lt_succ_self _) ?_
  exact ⟨hM0, by omega, rfl, rfl, fun s _ _ => hz0 s, fun s _ _ => hz1 s⟩
