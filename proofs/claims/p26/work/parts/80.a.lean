set_option maxHeartbeats 4000000 in
set_option maxRecDepth 100000 in
theorem k_L_cell {Ω : xO} {h : xM} {b Ls : Nat} {xs : Nat → Int32} {k : Int} (hk : 0 ≤ k ∧ k < 30) (hLs : Ls ≤ 260) : yCs Ω yL_cell cL_cell 2 (some .int) rm_L_cell [rf b, vi k] h b Ls xs (fun q h' => h = h' ∧ ∃ r, q = some (vi r) ∧ 0 ≤ r ∧ r ≤ 2147483647) := by
  refine yCs_of (by decide +kernel) (Nat.le_of_ble_eq_true rfl) (fun p e s0 m0 args0 below meth c cx wd sc => ?_)
  generalize hPR : (fun q h' => h = h' ∧ ∃ r, q = some (vi r) ∧ 0 ≤ r ∧ r ≤ 2147483647 : Option xV → xM → Prop) = PR
  have K0 : Y Ω rm_L_cell (vx_MQ below (xQ Ω PR) (xX Ω xNo) args0 s0 rm_L_cell.cells rm_L_cell.slots (xA Ω)) p e s0 m0 args0 below meth c 2 0 0 0 [some (rf b), some (vi k)] [] h := ?_
  exact K0
  have J : ∀ z : Int, Y Ω rm_L_cell (vx_MQ below (xQ Ω PR) (xX Ω xNo) args0 s0 rm_L_cell.cells rm_L_cell.slots (xA Ω)) p e s0 m0 args0 below meth c 2 0 0 24 [some (rf b), some (vi k)] [vi z] h := by
    intro z
    refine Y.ldcI cx wd (v := 2147483647) dL_cell_24 kL_8 (pc' := 26) rfl ?_
    obtain ⟨w, hw, hw0, hw1⟩ := y_and (Int32.ofInt z)
    refine Y.iand cx wd (z := w) hw dL_cell_26 (pc' := 27) rfl ?_
    refine Y.iret cx dL_cell_27 rfl (Nat.le_of_ble_eq_true rfl) (Nat.le_of_ble_eq_true rfl) ?_
    subst hPR
    exact ⟨rfl, w, rfl, hw0, hw1⟩
  refine Y.iload_n cx wd (i := 1) rfl rfl dL_cell_0 (pc' := 1) rfl ?_
  refine Y.aload_n cx wd (i := 0) rfl rfl dL_cell_1 (pc' := 2) rfl ?_
  refine Y.slen cx sc dL_cell_2 (pc' := 3) rfl ?_
  refine Y.icmp_ge cx wd (tgt := 12) dL_cell_3 ⟨by omega, by omega⟩ ⟨by omega, by omega⟩ (by decide) (pc' := 6) rfl (fun c1 => ?_) (fun c1 => ?_)
  · refine Y.ldcI cx wd (v := 48397) dL_cell_12 kL_7 (pc' := 14) rfl ?_
    refine Y.iload_n cx wd (i := 1) rfl rfl dL_cell_14 (pc' := 15) rfl ?_
    refine Y.sipush cx wd (by decide +kernel) dL_cell_15 (pc' := 18) rfl ?_
    refine Y.irem cx wd ⟨by omega, by omega⟩ (by omega) ⟨by omega, by omega⟩ (by omega) dL_cell_18 (pc' := 19) rfl ?_
    refine Y.imul cx wd dL_cell_19 (pc' := 20) rfl ?_
    refine Y.sipush cx wd (by decide +kernel) dL_cell_20 (pc' := 23) rfl ?_
    refine Y.iadd cx wd dL_cell_23 (pc' := 24) rfl ?_
    exact J _
  · refine Y.aload_n cx wd (i := 0) rfl rfl dL_cell_6 (pc' := 7) rfl ?_
    refine Y.iload_n cx wd (i := 1) rfl rfl dL_cell_7 (pc' := 8) rfl ?_
    refine Y.sald cx sc dL_cell_8 (by omega) (by omega) ⟨by omega, by omega⟩ (pc' := 9) rfl (fun z ez irz => ?_)
    refine Y.goto cx wd (tgt := 24) dL_cell_9 (by decide) ?_
    exact J _
set_option maxHeartbeats 4000000 in
set_option maxRecDepth 100000 in
theorem k_L_acts {Ω : xO} {h : xM} {x lo : Nat} {L : lS} {y : Int} (hE : EL h x lo L) (hI : lI L) (hy : 0 ≤ y ∧ y ≤ 2147483647) : xCt Ω yL_acts cL_acts 3 (some .int) rm_L_acts [rf x, vi y] h (fun q h' => ∃ r, q = some (vi r) ∧ (-2000003 ≤ r ∧ r ≤ 500) ∧ EF h h' x lo ∧ ((r < -2000000 ∧ EL h' x lo L) ∨ (-2000000 ≤ r ∧ ∃ A, EL h' x lo (sA (sSave L) A) ∧ aInv A ∧ (y % 16 = 2 → aB (lA L) < aB A ∧ ∀ s, 0 ≤ s → s < 6 → aHe A s (aB (lA L)) = vce (lA L) s (aB (lA L)))))) xNo := by
  refine xCt_of (ini := false) (by decide +kernel) (Nat.le_of_ble_eq_true rfl) (fun q => absurd q (by decide)) ?_
  generalize hPR : (fun q h' => ∃ r, q = some (vi r) ∧ (-2000003 ≤ r ∧ r ≤ 500) ∧ EF h h' x lo ∧ ((r < -2000000 ∧ EL h' x lo L) ∨ (-2000000 ≤ r ∧ ∃ A, EL h' x lo (sA (sSave L) A) ∧ aInv A ∧ (y % 16 = 2 → aB (lA L) < aB A ∧ ∀ s, 0 ≤ s → s < 6 → aHe A s (aB (lA L)) = vce (lA L) s (aB (lA L))))) : Option xV → xM → Prop) = PR
  have K0 : X Ω RL cL_acts 3 (some .int) false rm_L_acts PR xNo 0 0 0 [some (rf x), some (vi y), none] [] h := ?_
  exact K0
  have okA := hE.2.1.1.2.1
  have okP := hE.2.2.2.2.2.1.1
  refine X.iload_n (i := 1) rfl rfl dL_acts_0 (pc' := 1) rfl ?_
  refine X.bipush (by decide +kernel) dL_acts_1 (pc' := 3) rfl ?_
  refine X.idiv ⟨by omega, by omega⟩ (by omega) ⟨by omega, by omega⟩ (by omega) dL_acts_3 (pc' := 4) rfl ?_
  refine X.gen (fun x1 hx1 => ?_)
  refine X.istore_n (i := 2) (ls' := [some (rf x), some (vi y), some (vi x1)]) (hi := rfl) (hd := dL_acts_4) (by decide) rfl rfl (pc' := 5) rfl ?_
  refine X.iload_n (i := 1) rfl rfl dL_acts_5 (pc' := 6) rfl ?_
  refine X.bipush (by decide +kernel) dL_acts_6 (pc' := 8) rfl ?_
  refine X.irem ⟨by omega, by omega⟩ (by omega) ⟨by omega, by omega⟩ (by omega) dL_acts_8 (pc' := 9) rfl ?_
  rcases (show (y % 16) = 0 ∨ (y % 16) = 1 ∨ (y % 16) = 2 ∨ (y % 16) = 3 ∨ (y % 16 < 0 ∨ 3 < y % 16) by omega) with sw2 | sw2 | sw2 | sw2 | sw2
  · refine X.tableIn (tgt := 40) (off := 31) dL_acts_9 ⟨by omega, by omega⟩ (by omega) (by omega) (by rw [sw2]; rfl) (by decide) ?_
    refine X.aload_n (i := 0) rfl rfl dL_acts_40 (pc' := 41) rfl ?_
    refine X.iload_n (i := 2) rfl rfl dL_acts_41 (pc' := 42) rfl ?_
    refine X.bipush (by decide +kernel) dL_acts_42 (pc' := 44) rfl ?_
    refine X.irem ⟨by omega, by omega⟩ (by omega) ⟨by omega, by omega⟩ (by omega) dL_acts_44 (pc' := 45) rfl ?_
    refine X.iload_n (i := 2) rfl rfl dL_acts_45 (pc' := 46) rfl ?_
    refine X.bipush (by decide +kernel) dL_acts_46 (pc' := 48) rfl ?_
    refine X.idiv ⟨by omega, by omega⟩ (by omega) ⟨by omega, by omega⟩ (by omega) dL_acts_48 (pc' := 49) rfl ?_
    refine X.iconst dL_acts_49 (pc' := 50) rfl ?_
    refine X.irem ⟨by omega, by omega⟩ (by omega) ⟨by omega, by omega⟩ (by omega) dL_acts_50 (pc' := 51) rfl ?_
    refine X.callSW (rm := rm_L_wall) (As := [rf x, vi (x1 % 7), vi ((x1 / 7) % 5)]) (st := []) dL_acts_51 ckS_wall rfl rfl ⟨Nat.le_of_ble_eq_true rfl, Nat.le_of_ble_eq_true rfl⟩ (Nat.le_of_ble_eq_true rfl) (Nat.le_of_ble_eq_true rfl) (Nat.le_of_ble_eq_true rfl) (pc' := 54) rfl (k_L_wall hE ⟨by omega, by omega⟩ ⟨by omega, by omega⟩) (fun q3 hq3 eq3 => ?_)
    obtain ⟨r, rfl, hF1, hc1⟩ := eq3
    refine X.iret dL_acts_54 (Or.inl rfl) (Nat.le_of_ble_eq_true rfl) (Nat.le_of_ble_eq_true rfl) ?_
    subst hPR
    rcases hc1 with ⟨hcd, hr, hE1⟩ | ⟨hp, hE1⟩
    · have okl := okA.2.2.1 _ hcd.1.1 hcd.1.2
      refine ⟨_, rfl, by omega, hF1, Or.inr ⟨by omega, _, hE1, aInv_wl hI.1 _ _, fun z => by exfalso; omega⟩⟩
    · have hp1 := py3_rng hp
      exact ⟨_, rfl, by omega, hF1, Or.inl ⟨by omega, hE1⟩⟩
  · refine X.tableIn (tgt := 55) (off := 46) dL_acts_9 ⟨by omega, by omega⟩ (by omega) (by omega) (by rw [sw2]; rfl) (by decide) ?_
    refine X.aload_n (i := 0) rfl rfl dL_acts_55 (pc' := 56) rfl ?_
    refine X.iload_n (i := 2) rfl rfl dL_acts_56 (pc' := 57) rfl ?_
    refine X.iconst dL_acts_57 (pc' := 58) rfl ?_
    refine X.irem ⟨by omega, by omega⟩ (by omega) ⟨by omega, by omega⟩ (by omega) dL_acts_58 (pc' := 59) rfl ?_
    refine X.iload_n (i := 2) rfl rfl dL_acts_59 (pc' := 60) rfl ?_
    refine X.iconst dL_acts_60 (pc' := 61) rfl ?_
    refine X.idiv ⟨by omega, by omega⟩ (by omega) ⟨by omega, by omega⟩ (by omega) dL_acts_61 (pc' := 62) rfl ?_
    refine X.bipush (by decide +kernel) dL_acts_62 (pc' := 64) rfl ?_
    refine X.irem ⟨by omega, by omega⟩ (by omega) ⟨by omega, by omega⟩ (by omega) dL_acts_64 (pc' := 65) rfl ?_
    refine X.callSW (rm := rm_L_set) (As := [rf x, vi (x1 % 4), vi ((x1 / 4) % 12)]) (st := []) dL_acts_65 ckS_set rfl rfl ⟨Nat.le_of_ble_eq_true rfl, Nat.le_of_ble_eq_true rfl⟩ (Nat.le_of_ble_eq_true rfl) (Nat.le_of_ble_eq_true rfl) (Nat.le_of_ble_eq_true rfl) (pc' := 68) rfl (k_L_set hE ⟨by omega, by omega⟩ ⟨by omega, by omega⟩) (fun q4 hq4 eq4 => ?_)
    obtain ⟨r, rfl, hF1, hc1⟩ := eq4
    refine X.iret dL_acts_68 (Or.inl rfl) (Nat.le_of_ble_eq_true rfl) (Nat.le_of_ble_eq_true rfl) ?_
    subst hPR
    rcases hc1 with ⟨hcd, hr, hE1⟩ | ⟨hp, hE1⟩
    · have okl := stv okA hcd.1
      refine ⟨_, rfl, by omega, hF1, Or.inr ⟨by omega, _, hE1, aInv_st hI.1 _ _, fun z => by exfalso; omega⟩⟩
    · have hp1 := py3_rng hp
      exact ⟨_, rfl, by omega, hF1, Or.inl ⟨by omega, hE1⟩⟩
  · refine X.tableIn (tgt := 69) (off := 60) dL_acts_9 ⟨by omega, by omega⟩ (by omega) (by omega) (by rw [sw2]; rfl) (by decide) ?_
    refine X.aload_n (i := 0) rfl rfl dL_acts_69 (pc' := 70) rfl ?_
    refine X.iload_n (i := 2) rfl rfl dL_acts_70 (pc' := 71) rfl ?_
    refine X.iconst dL_acts_71 (pc' := 72) rfl ?_
    refine X.irem ⟨by omega, by omega⟩ (by omega) ⟨by omega, by omega⟩ (by omega) dL_acts_72 (pc' := 73) rfl ?_
    refine X.iload_n (i := 2) rfl rfl dL_acts_73 (pc' := 74) rfl ?_
    refine X.iconst dL_acts_74 (pc' := 75) rfl ?_
    refine X.idiv ⟨by omega, by omega⟩ (by omega) ⟨by omega, by omega⟩ (by omega) dL_acts_75 (pc' := 76) rfl ?_
    refine X.bipush (by decide +kernel) dL_acts_76 (pc' := 78) rfl ?_
    refine X.irem ⟨by omega, by omega⟩ (by omega) ⟨by omega, by omega⟩ (by omega) dL_acts_78 (pc' := 79) rfl ?_
    refine X.if_ne (tgt := 87) dL_acts_79 ⟨by omega, by omega⟩ (by decide) (pc' := 82) rfl (fun c79 => ?_) (fun c79 => ?_)
    · refine X.iconst dL_acts_87 (pc' := 88) rfl ?_
      refine X.iadd dL_acts_88 (pc' := 89) rfl ?_
      refine X.callSW (rm := rm_L_pass) (As := [rf x, vi ((x1 % 4) + 0)]) (st := []) dL_acts_89 ckS_pass rfl rfl ⟨Nat.le_of_ble_eq_true rfl, Nat.le_of_ble_eq_true rfl⟩ (Nat.le_of_ble_eq_true rfl) (Nat.le_of_ble_eq_true rfl) (Nat.le_of_ble_eq_true rfl) (pc' := 92) rfl (k_L_pass hE ⟨by omega, by omega⟩) (fun q5 hq5 eq5 => ?_)
      obtain ⟨r, rfl, hF1, hc1⟩ := eq5
      refine X.iret dL_acts_92 (Or.inl rfl) (Nat.le_of_ble_eq_true rfl) (Nat.le_of_ble_eq_true rfl) ?_
      subst hPR
      rcases hc1 with ⟨hcd, hr, hE1⟩ | ⟨hp, hE1⟩
      · have okB := okA.1
        refine ⟨_, rfl, by omega, hF1, Or.inr ⟨by omega, _, hE1, aInv_rest okA okP hI.1 _ (by omega), fun _ => pass_he (by omega) (by omega)⟩⟩
      · have hp1 := py3_rng hp
        exact ⟨_, rfl, by omega, hF1, Or.inl ⟨by omega, hE1⟩⟩
    · refine X.bipush (by decide +kernel) dL_acts_82 (pc' := 84) rfl ?_
      refine X.goto (tgt := 88) dL_acts_84 (by decide) ?_
      refine X.iadd dL_acts_88 (pc' := 89) rfl ?_
      refine X.callSW (rm := rm_L_pass) (As := [rf x, vi ((x1 % 4) + 50)]) (st := []) dL_acts_89 ckS_pass rfl rfl ⟨Nat.le_of_ble_eq_true rfl, Nat.le_of_ble_eq_true rfl⟩ (Nat.le_of_ble_eq_true rfl) (Nat.le_of_ble_eq_true rfl) (Nat.le_of_ble_eq_true rfl) (pc' := 92) rfl (k_L_pass hE ⟨by omega, by omega⟩) (fun q6 hq6 eq6 => ?_)
      obtain ⟨r, rfl, hF1, hc1⟩ := eq6
      refine X.iret dL_acts_92 (Or.inl rfl) (Nat.le_of_ble_eq_true rfl) (Nat.le_of_ble_eq_true rfl) ?_
      subst hPR
      rcases hc1 with ⟨hcd, hr, hE1⟩ | ⟨hp, hE1⟩
      · have okB := okA.1
        refine ⟨_, rfl, by omega, hF1, Or.inr ⟨by omega, _, hE1, aInv_rest okA okP hI.1 _ (by omega), fun _ => pass_he (by omega) (by omega)⟩⟩
      · have hp1 := py3_rng hp
        exact ⟨_, rfl, by omega, hF1, Or.inl ⟨by omega, hE1⟩⟩
  · refine X.tableIn (tgt := 93) (off := 84) dL_acts_9 ⟨by omega, by omega⟩ (by omega) (by omega) (by rw [sw2]; rfl) (by decide) ?_
    refine X.iload_n (i := 2) rfl rfl dL_acts_93 (pc' := 94) rfl ?_
    refine X.iconst dL_acts_94 (pc' := 95) rfl ?_
    refine X.irem ⟨by omega, by omega⟩ (by omega) ⟨by omega, by omega⟩ (by omega) dL_acts_95 (pc' := 96) rfl ?_
    refine X.if_ne (tgt := 106) dL_acts_96 ⟨by omega, by omega⟩ (by decide) (pc' := 99) rfl (fun c96 => ?_) (fun c96 => ?_)
    · refine X.aload_n (i := 0) rfl rfl dL_acts_106 (pc' := 107) rfl ?_
      refine X.iconst dL_acts_107 (pc' := 108) rfl ?_
      refine X.callSW (rm := rm_L_pass) (As := [rf x, vi 1]) (st := []) dL_acts_108 ckS_pass rfl rfl ⟨Nat.le_of_ble_eq_true rfl, Nat.le_of_ble_eq_true rfl⟩ (Nat.le_of_ble_eq_true rfl) (Nat.le_of_ble_eq_true rfl) (Nat.le_of_ble_eq_true rfl) (pc' := 111) rfl (k_L_pass hE ⟨by omega, by omega⟩) (fun q7 hq7 eq7 => ?_)
      obtain ⟨r, rfl, hF1, hc1⟩ := eq7
      refine X.iret dL_acts_111 (Or.inl rfl) (Nat.le_of_ble_eq_true rfl) (Nat.le_of_ble_eq_true rfl) ?_
      subst hPR
      rcases hc1 with ⟨hcd, hr, hE1⟩ | ⟨hp, hE1⟩
      · have okB := okA.1
        refine ⟨_, rfl, by omega, hF1, Or.inr ⟨by omega, _, hE1, aInv_rest okA okP hI.1 _ (by omega), fun _ => pass_he (by omega) (by omega)⟩⟩
      · have hp1 := py3_rng hp
        exact ⟨_, rfl, by omega, hF1, Or.inl ⟨by omega, hE1⟩⟩
    · refine X.aload_n (i := 0) rfl rfl dL_acts_99 (pc' := 100) rfl ?_
      refine X.callSW (rm := rm_L_restore) (As := [rf x]) (st := []) dL_acts_100 ckS_restore rfl rfl ⟨Nat.le_of_ble_eq_true rfl, Nat.le_of_ble_eq_true rfl⟩ (Nat.le_of_ble_eq_true rfl) (Nat.le_of_ble_eq_true rfl) (Nat.le_of_ble_eq_true rfl) (pc' := 103) rfl (k_L_restore hE) (fun q8 hq8 eq8 => ?_)
      obtain ⟨r, rfl, hF1, hc1⟩ := eq8
      refine X.goto (tgt := 111) dL_acts_103 (by decide) ?_
      refine X.iret dL_acts_111 (Or.inl rfl) (Nat.le_of_ble_eq_true rfl) (Nat.le_of_ble_eq_true rfl) ?_
      subst hPR
      rcases hc1 with ⟨hcd, hr, hE1⟩ | ⟨hp, hE1⟩
      · have okB : 0 ≤ aB (lK L) ∧ aB (lK L) ≤ 400 := hE1.2.1.1.2.1.1
        refine ⟨_, rfl, by omega, hF1, Or.inr ⟨by omega, _, hE1, hI.2.2 hcd.1, fun z => by exfalso; omega⟩⟩
      · have hp1 := py3_rng hp
        exact ⟨_, rfl, by omega, hF1, Or.inl ⟨by omega, hE1⟩⟩
  · refine X.tableOut (tgt := 112) dL_acts_9 ⟨by omega, by omega⟩ sw2 (by decide) ?_
    refine X.aload_n (i := 0) rfl rfl dL_acts_112 (pc' := 113) rfl ?_
    refine X.iload_n (i := 2) rfl rfl dL_acts_113 (pc' := 114) rfl ?_
    refine X.bipush (by decide +kernel) dL_acts_114 (pc' := 116) rfl ?_
    refine X.irem ⟨by omega, by omega⟩ (by omega) ⟨by omega, by omega⟩ (by omega) dL_acts_116 (pc' := 117) rfl ?_
    refine X.if_ne (tgt := 125) dL_acts_117 ⟨by omega, by omega⟩ (by decide) (pc' := 120) rfl (fun c117 => ?_) (fun c117 => ?_)
    · refine X.iload_n (i := 2) rfl rfl dL_acts_125 (pc' := 126) rfl ?_
      refine X.bipush (by decide +kernel) dL_acts_126 (pc' := 128) rfl ?_
      refine X.irem ⟨by omega, by omega⟩ (by omega) ⟨by omega, by omega⟩ (by omega) dL_acts_128 (pc' := 129) rfl ?_
      refine X.iload_n (i := 2) rfl rfl dL_acts_129 (pc' := 130) rfl ?_
      refine X.bipush (by decide +kernel) dL_acts_130 (pc' := 132) rfl ?_
      refine X.idiv ⟨by omega, by omega⟩ (by omega) ⟨by omega, by omega⟩ (by omega) dL_acts_132 (pc' := 133) rfl ?_
      refine X.bipush (by decide +kernel) dL_acts_133 (pc' := 135) rfl ?_
      refine X.irem ⟨by omega, by omega⟩ (by omega) ⟨by omega, by omega⟩ (by omega) dL_acts_135 (pc' := 136) rfl ?_
      refine X.iload_n (i := 2) rfl rfl dL_acts_136 (pc' := 137) rfl ?_
      refine X.sipush (by decide +kernel) dL_acts_137 (pc' := 140) rfl ?_
      refine X.idiv ⟨by omega, by omega⟩ (by omega) ⟨by omega, by omega⟩ (by omega) dL_acts_140 (pc' := 141) rfl ?_
      refine X.bipush (by decide +kernel) dL_acts_141 (pc' := 143) rfl ?_
      refine X.irem ⟨by omega, by omega⟩ (by omega) ⟨by omega, by omega⟩ (by omega) dL_acts_143 (pc' := 144) rfl ?_
      refine X.iconst dL_acts_144 (pc' := 145) rfl ?_
      refine X.isub dL_acts_145 (pc' := 146) rfl ?_
      refine X.callSW (rm := rm_L_say) (As := [rf x, vi (x1 % 6), vi ((x1 / 13) % 101), vi (((x1 / 1313) % 12) - 1)]) (st := []) dL_acts_146 ckS_say rfl rfl ⟨Nat.le_of_ble_eq_true rfl, Nat.le_of_ble_eq_true rfl⟩ (Nat.le_of_ble_eq_true rfl) (Nat.le_of_ble_eq_true rfl) (Nat.le_of_ble_eq_true rfl) (pc' := 149) rfl (k_L_say hE ⟨by omega, by omega⟩ ⟨by omega, by omega⟩ ⟨by omega, by omega⟩) (fun q9 hq9 eq9 => ?_)
      obtain ⟨r, rfl, hF1, hc1⟩ := eq9
      refine X.iret dL_acts_149 (Or.inl rfl) (Nat.le_of_ble_eq_true rfl) (Nat.le_of_ble_eq_true rfl) ?_
      subst hPR
      rcases hc1 with ⟨hcd, hr, hE1⟩ | ⟨hp, hE1⟩
      · have okN := okA.2.1
        refine ⟨_, rfl, by omega, hF1, Or.inr ⟨by omega, _, hE1, aInv_say okA okP hI.1 hcd.1 hcd.2.1.1 hcd.2.1.2 hcd.2.2.1, fun z => by exfalso; omega⟩⟩
      · have hp1 := py3_rng hp
        exact ⟨_, rfl, by omega, hF1, Or.inl ⟨by omega, hE1⟩⟩
    · refine X.bipush (by decide +kernel) dL_acts_120 (pc' := 122) rfl ?_
      refine X.goto (tgt := 129) dL_acts_122 (by decide) ?_
      refine X.iload_n (i := 2) rfl rfl dL_acts_129 (pc' := 130) rfl ?_
      refine X.bipush (by decide +kernel) dL_acts_130 (pc' := 132) rfl ?_
      refine X.idiv ⟨by omega, by omega⟩ (by omega) ⟨by omega, by omega⟩ (by omega) dL_acts_132 (pc' := 133) rfl ?_
      refine X.bipush (by decide +kernel) dL_acts_133 (pc' := 135) rfl ?_
      refine X.irem ⟨by omega, by omega⟩ (by omega) ⟨by omega, by omega⟩ (by omega) dL_acts_135 (pc' := 136) rfl ?_
      refine X.iload_n (i := 2) rfl rfl dL_acts_136 (pc' := 137) rfl ?_
      refine X.sipush (by decide +kernel) dL_acts_137 (pc' := 140) rfl ?_
      refine X.idiv ⟨by omega, by omega⟩ (by omega) ⟨by omega, by omega⟩ (by omega) dL_acts_140 (pc' := 141) rfl ?_
      refine X.bipush (by decide +kernel) dL_acts_141 (pc' := 143) rfl ?_
      refine X.irem ⟨by omega, by omega⟩ (by omega) ⟨by omega, by omega⟩ (by omega) dL_acts_143 (pc' := 144) rfl ?_
      refine X.iconst dL_acts_144 (pc' := 145) rfl ?_
      refine X.isub dL_acts_145 (pc' := 146) rfl ?_
      refine X.callSW (rm := rm_L_say) (As := [rf x, vi 6, vi ((x1 / 13) % 101), vi (((x1 / 1313) % 12) - 1)]) (st := []) dL_acts_146 ckS_say rfl rfl ⟨Nat.le_of_ble_eq_true rfl, Nat.le_of_ble_eq_true rfl⟩ (Nat.le_of_ble_eq_true rfl) (Nat.le_of_ble_eq_true rfl) (Nat.le_of_ble_eq_true rfl) (pc' := 149) rfl (k_L_say hE ⟨by omega, by omega⟩ ⟨by omega, by omega⟩ ⟨by omega, by omega⟩) (fun q10 hq10 eq10 => ?_)
      obtain ⟨r, rfl, hF1, hc1⟩ := eq10
      refine X.iret dL_acts_149 (Or.inl rfl) (Nat.le_of_ble_eq_true rfl) (Nat.le_of_ble_eq_true rfl) ?_
      subst hPR
      rcases hc1 with ⟨hcd, hr, hE1⟩ | ⟨hp, hE1⟩
      · have okN := okA.2.1
        refine ⟨_, rfl, by omega, hF1, Or.inr ⟨by omega, _, hE1, aInv_say okA okP hI.1 hcd.1 hcd.2.1.1 hcd.2.1.2 hcd.2.2.1, fun z => by exfalso; omega⟩⟩
      · have hp1 := py3_rng hp
        exact ⟨_, rfl, by omega, hF1, Or.inl ⟨by omega, hE1⟩⟩
set_option maxHeartbeats 4000000 in
set_option maxRecDepth 100000 in
theorem k_L_tells {Ω : xO} {h : xM} {x lo : Nat} {L : lS} {f m : Int} (hE : EL h x lo L) (hf : 0 ≤ f ∧ f < 6) (hm : 0 ≤ m ∧ m ≤ 9) : xCt Ω yL_tells cL_tells 7 (some .boolean) rm_L_tells [rf x, vi f, vi m] h (fun q h' => q = some (vi 1) ∧ EL h' x lo L ∧ EF h h' x lo) xNo := by
  refine xCt_of (ini := false) (by decide +kernel) (Nat.le_of_ble_eq_true rfl) (fun q => absurd q (by decide)) ?_
  generalize hPR : (fun q h' => q = some (vi 1) ∧ EL h' x lo L ∧ EF h h' x lo : Option xV → xM → Prop) = PR
  have K0 : X Ω RL cL_tells 7 (some .boolean) false rm_L_tells PR xNo 0 0 0 [some (rf x), some (vi f), some (vi m), none, none, none, none] [] h := ?_
  exact K0
  refine X.aload_n (i := 0) rfl rfl dL_tells_0 (pc' := 1) rfl ?_
  refine X.bipush (by decide +kernel) dL_tells_1 (pc' := 3) rfl ?_
  refine X.iload_n (i := 2) rfl rfl dL_tells_3 (pc' := 4) rfl ?_
  refine X.iconst dL_tells_4 (pc' := 5) rfl ?_
  refine X.callSW (rm := rm_L_message) (As := [rf x, vi 6, vi m, vi 0]) (st := []) dL_tells_5 ckS_message rfl rfl ⟨Nat.le_of_ble_eq_true rfl, Nat.le_of_ble_eq_true rfl⟩ (Nat.le_of_ble_eq_true rfl) (Nat.le_of_ble_eq_true rfl) (Nat.le_of_ble_eq_true rfl) (pc' := 8) rfl (k_L_message hE ⟨by omega, by omega⟩ ⟨by omega, by omega⟩ ⟨by omega, by omega⟩) (fun q1 hq1 eq1 => ?_)
  obtain ⟨r1, rfl, hF1, hc1⟩ := eq1
  have hr1 : r1 = (-2000001) ∧ EL hq1 x lo L := by
    rcases hc1 with ⟨hcd, -, -⟩ | ⟨hp, hE9⟩
    · exfalso; omega
    · refine ⟨?_, hE9⟩
      rcases hp with z | z | z
      · have := z.1; have := z.2; omega
      · have := z.2.1; have := z.2.2; omega
      · have := z.1; have := z.2.1; omega
  obtain ⟨rfl, hE1⟩ := hr1
  refine X.ldcI (v := (-2000001)) dL_tells_8 kL_17 (pc' := 10) rfl ?_
  refine X.icmp_ne (tgt := 30) dL_tells_10 ⟨by omega, by omega⟩ ⟨by omega, by omega⟩ (by decide) (pc' := 13) rfl (fun c10 => by exfalso; omega) (fun c10 => ?_)
  refine X.aload_n (i := 0) rfl rfl dL_tells_13 (pc' := 14) rfl ?_
  refine X.iload_n (i := 1) rfl rfl dL_tells_14 (pc' := 15) rfl ?_
  refine X.bipush (by decide +kernel) dL_tells_15 (pc' := 17) rfl ?_
  refine X.iconst dL_tells_17 (pc' := 18) rfl ?_
  refine X.callSW (rm := rm_L_message) (As := [rf x, vi f, vi 10, vi 0]) (st := []) dL_tells_18 ckS_message rfl rfl ⟨Nat.le_of_ble_eq_true rfl, Nat.le_of_ble_eq_true rfl⟩ (Nat.le_of_ble_eq_true rfl) (Nat.le_of_ble_eq_true rfl) (Nat.le_of_ble_eq_true rfl) (pc' := 21) rfl (k_L_message hE1 ⟨by omega, by omega⟩ ⟨by omega, by omega⟩ ⟨by omega, by omega⟩) (fun q2 hq2 eq2 => ?_)
  obtain ⟨r2, rfl, hF2, hc2⟩ := eq2
  have hr2 : r2 = (-2000002) ∧ EL hq2 x lo L := by
    rcases hc2 with ⟨hcd, -, -⟩ | ⟨hp, hE9⟩
    · exfalso; omega
    · refine ⟨?_, hE9⟩
      rcases hp with z | z | z
      · have := z.1; have := z.2; omega
      · have := z.2.1; have := z.2.2; omega
      · have := z.1; have := z.2.1; omega
  obtain ⟨rfl, hE2⟩ := hr2
  refine X.ldcI (v := (-2000002)) dL_tells_21 kL_20 (pc' := 23) rfl ?_
  refine X.icmp_ne (tgt := 30) dL_tells_23 ⟨by omega, by omega⟩ ⟨by omega, by omega⟩ (by decide) (pc' := 26) rfl (fun c23 => by exfalso; omega) (fun c23 => ?_)
  refine X.iconst dL_tells_26 (pc' := 27) rfl ?_
  refine X.goto (tgt := 31) dL_tells_27 (by decide) ?_
  refine X.istore_n (i := 3) (ls' := [some (rf x), some (vi f), some (vi m), some (vi 1), none, none, none]) (hi := rfl) (hd := dL_tells_31) (by decide) rfl rfl (pc' := 32) rfl ?_
  refine X.aload_n (i := 0) rfl rfl dL_tells_32 (pc' := 33) rfl ?_
  refine X.iload_n (i := 1) rfl rfl dL_tells_33 (pc' := 34) rfl ?_
  refine X.iload_n (i := 2) rfl rfl dL_tells_34 (pc' := 35) rfl ?_
  refine X.iconst dL_tells_35 (pc' := 36) rfl ?_
  refine X.callSW (rm := rm_L_message0) (As := [rf x, vi f, vi m, vi 0]) (st := []) dL_tells_36 ckS_message rfl rfl ⟨Nat.le_of_ble_eq_true rfl, Nat.le_of_ble_eq_true rfl⟩ (Nat.le_of_ble_eq_true rfl) (Nat.le_of_ble_eq_true rfl) (Nat.le_of_ble_eq_true rfl) (pc' := 39) rfl (k_L_message0 hE2 ⟨by omega, by omega⟩ ⟨by omega, by omega⟩ ⟨by omega, by omega⟩ (by omega)) (fun q3 hq3 eq3 => ?_)
  obtain ⟨rfl, wq3⟩ := eq3
  obtain rfl : q3 = some (vi (how (lA L) f m 0)) := wq3.trans (by rfl)
  have hr0 := how_rng (lA L) f m 0
  have J50 : ∀ (is : Int), ((is = 1 ∧ how (lA L) f m 0 ≠ -1) ∨ (is = 0 ∧ how (lA L) f m 0 = -1)) → X Ω RL cL_tells 7 (some .boolean) false rm_L_tells PR xNo 6 36 50 [some (rf x), some (vi f), some (vi m), some (vi 1), some (vi is), none, none] [] hq2 := by
    intro is his
    refine X.iconst dL_tells_50 (pc' := 51) rfl ?_
    refine X.istore (i := 5) (ls' := [some (rf x), some (vi f), some (vi m), some (vi 1), some (vi is), some (vi 0), none]) (hd := dL_tells_51) (by decide) rfl rfl (pc' := 53) rfl ?_
    have L53 : ∀ (n53 : Nat) (j : Int), (6 - j).toNat < n53 → (0 ≤ j ∧ j ≤ 6) → X Ω RL cL_tells 7 (some .boolean) false rm_L_tells PR xNo 6 36 53 [some (rf x), some (vi f), some (vi m), some (vi 1), some (vi is), some (vi j), none] [] hq2 := by
      intro n53
      induction n53 with
      | zero => intro j hm _; exfalso; omega
      | succ n53 ih53 =>
        intro j hm53 hinv
        refine X.iload (i := 5) rfl dL_tells_53 (pc' := 55) rfl ?_
        refine X.bipush (by decide +kernel) dL_tells_55 (pc' := 57) rfl ?_
        refine X.icmp_ge (tgt := 114) dL_tells_57 ⟨by omega, by omega⟩ ⟨by omega, by omega⟩ (by decide) (pc' := 60) rfl (fun c57 => ?_) (fun c57 => ?_)
        · refine X.iload_n (i := 3) rfl rfl dL_tells_114 (pc' := 115) rfl ?_
          refine X.iret dL_tells_115 (Or.inr ⟨rfl, by omega⟩) (Nat.le_of_ble_eq_true rfl) (Nat.le_of_ble_eq_true rfl) ?_
          subst hPR
          exact ⟨rfl, hE2, hF1.tr hF2⟩
        · refine X.iload_n (i := 3) rfl rfl dL_tells_60 (pc' := 61) rfl ?_
          refine X.if_eq (tgt := 114) dL_tells_61 ⟨by omega, by omega⟩ (by decide) (pc' := 64) rfl (fun c61 => by exfalso; omega) (fun c61 => ?_)
          refine X.aload_n (i := 0) rfl rfl dL_tells_64 (pc' := 65) rfl ?_
          refine X.iload_n (i := 1) rfl rfl dL_tells_65 (pc' := 66) rfl ?_
          refine X.iload_n (i := 2) rfl rfl dL_tells_66 (pc' := 67) rfl ?_
          refine X.iload (i := 5) rfl dL_tells_67 (pc' := 69) rfl ?_
          refine X.callSW (rm := rm_L_message0) (As := [rf x, vi f, vi m, vi j]) (st := []) dL_tells_69 ckS_message rfl rfl ⟨Nat.le_of_ble_eq_true rfl, Nat.le_of_ble_eq_true rfl⟩ (Nat.le_of_ble_eq_true rfl) (Nat.le_of_ble_eq_true rfl) (Nat.le_of_ble_eq_true rfl) (pc' := 72) rfl (k_L_message0 hE2 ⟨by omega, by omega⟩ ⟨by omega, by omega⟩ ⟨by omega, by omega⟩ (by omega)) (fun q4 hq4 eq4 => ?_)
          obtain ⟨rfl, wq4⟩ := eq4
          obtain rfl : q4 = some (vi (how (lA L) f m j)) := wq4.trans (by rfl)
          have ha := how_all (lA L) f m 0 j
          have hr := how_rng (lA L) f m j
          refine X.gen (fun to hto => ?_)
          refine X.istore (i := 6) (ls' := [some (rf x), some (vi f), some (vi m), some (vi 1), some (vi is), some (vi j), some (vi to)]) (hd := dL_tells_72) (by decide) rfl rfl (pc' := 74) rfl ?_
          refine X.iload (i := 6) rfl dL_tells_74 (pc' := 76) rfl ?_
          refine X.iconst dL_tells_76 (pc' := 77) rfl ?_
          refine X.icmp_eq (tgt := 84) dL_tells_77 ⟨by omega, by omega⟩ ⟨by omega, by omega⟩ (by decide) (pc' := 80) rfl (fun c77 => ?_) (fun c77 => ?_)
          · refine X.iconst dL_tells_84 (pc' := 85) rfl ?_
            refine X.iload (i := 4) rfl dL_tells_85 (pc' := 87) rfl ?_
            refine X.icmp_ne (tgt := 106) dL_tells_87 ⟨by omega, by omega⟩ ⟨by omega, by omega⟩ (by decide) (pc' := 90) rfl (fun c87 => by exfalso; omega) (fun c87 => ?_)
            refine X.iload (i := 6) rfl dL_tells_90 (pc' := 92) rfl ?_
            refine X.iconst dL_tells_92 (pc' := 93) rfl ?_
            refine X.icmp_lt (tgt := 106) dL_tells_93 ⟨by omega, by omega⟩ ⟨by omega, by omega⟩ (by decide) (pc' := 96) rfl (fun c93 => by exfalso; omega) (fun c93 => ?_)
            refine X.iload (i := 6) rfl dL_tells_96 (pc' := 98) rfl ?_
            refine X.iconst dL_tells_98 (pc' := 99) rfl ?_
            refine X.icmp_gt (tgt := 106) dL_tells_99 ⟨by omega, by omega⟩ ⟨by omega, by omega⟩ (by decide) (pc' := 102) rfl (fun c99 => by exfalso; omega) (fun c99 => ?_)
            refine X.iconst dL_tells_102 (pc' := 103) rfl ?_
            refine X.goto (tgt := 107) dL_tells_103 (by decide) ?_
            refine X.istore_n (i := 3) (ls' := [some (rf x), some (vi f), some (vi m), some (vi 1), some (vi is), some (vi j), some (vi to)]) (hi := rfl) (hd := dL_tells_107) (by decide) rfl rfl (pc' := 108) rfl ?_
            refine X.iinc (i := 5) (ls' := [some (rf x), some (vi f), some (vi m), some (vi 1), some (vi is), some (vi (j + 1)), some (vi to)]) dL_tells_108 rfl (by decide) rfl rfl (pc' := 111) rfl ?_
            refine X.goto (tgt := 53) dL_tells_111 (by decide) ?_
            refine X.mask (bs := [true, true, true, true, true, true, false]) (ls' := [some (rf x), some (vi f), some (vi m), some (vi 1), some (vi is), some (vi (j + 1)), none]) rfl ?_
            refine ih53 (j + 1) (by omega) ?_
            omega
          · refine X.iconst dL_tells_80 (pc' := 81) rfl ?_
            refine X.goto (tgt := 85) dL_tells_81 (by decide) ?_
            refine X.iload (i := 4) rfl dL_tells_85 (pc' := 87) rfl ?_
            refine X.icmp_ne (tgt := 106) dL_tells_87 ⟨by omega, by omega⟩ ⟨by omega, by omega⟩ (by decide) (pc' := 90) rfl (fun c87 => by exfalso; omega) (fun c87 => ?_)
            refine X.iload (i := 6) rfl dL_tells_90 (pc' := 92) rfl ?_
            refine X.iconst dL_tells_92 (pc' := 93) rfl ?_
            refine X.icmp_lt (tgt := 106) dL_tells_93 ⟨by omega, by omega⟩ ⟨by omega, by omega⟩ (by decide) (pc' := 96) rfl (fun c93 => by exfalso; omega) (fun c93 => ?_)
            refine X.iload (i := 6) rfl dL_tells_96 (pc' := 98) rfl ?_
            refine X.iconst dL_tells_98 (pc' := 99) rfl ?_
            refine X.icmp_gt (tgt := 106) dL_tells_99 ⟨by omega, by omega⟩ ⟨by omega, by omega⟩ (by decide) (pc' := 102) rfl (fun c99 => by exfalso; omega) (fun c99 => ?_)
            refine X.iconst dL_tells_102 (pc' := 103) rfl ?_
            refine X.goto (tgt := 107) dL_tells_103 (by decide) ?_
            refine X.istore_n (i := 3) (ls' := [some (rf x), some (vi f), some (vi m), some (vi 1), some (vi is), some (vi j), some (vi to)]) (hi := rfl) (hd := dL_tells_107) (by decide) rfl rfl (pc' := 108) rfl ?_
            refine X.iinc (i := 5) (ls' := [some (rf x), some (vi f), some (vi m), some (vi 1), some (vi is), some (vi (j + 1)), some (vi to)]) dL_tells_108 rfl (by decide) rfl rfl (pc' := 111) rfl ?_
            refine X.goto (tgt := 53) dL_tells_111 (by decide) ?_
            refine X.mask (bs := [true, true, true, true, true, true, false]) (ls' := [some (rf x), some (vi f), some (vi m), some (vi 1), some (vi is), some (vi (j + 1)), none]) rfl ?_
            refine ih53 (j + 1) (by omega) ?_
            omega
    refine L53 _ 0 (Nat.lt_succ_self _) ?_
    omega
  refine X.iconst dL_tells_39 (pc' := 40) rfl ?_
  refine X.icmp_eq (tgt := 47) dL_tells_40 ⟨by omega, by omega⟩ ⟨by omega, by omega⟩ (by decide) (pc' := 43) rfl (fun c40 => ?_) (fun c40 => ?_)
  · refine X.iconst dL_tells_47 (pc' := 48) rfl ?_
    refine X.istore (i := 4) (ls' := [some (rf x), some (vi f), some (vi m), some (vi 1), some (vi 0), none, none]) (hd := dL_tells_48) (by decide) rfl rfl (pc' := 50) rfl ?_
    refine J50 0 ?_
    omega
  · refine X.iconst dL_tells_43 (pc' := 44) rfl ?_
    refine X.goto (tgt := 48) dL_tells_44 (by decide) ?_
    refine X.istore (i := 4) (ls' := [some (rf x), some (vi f), some (vi m), some (vi 1), some (vi 1), none, none]) (hd := dL_tells_48) (by decide) rfl rfl (pc' := 50) rfl ?_
    refine J50 1 ?_
    omega
