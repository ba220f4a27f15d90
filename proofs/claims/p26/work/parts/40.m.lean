set_option maxHeartbeats 4000000 in
set_option maxRecDepth 100000 in
theorem k_X5_requireSeat {Ω : xO} {h : xM} {s : Int} (hs : inR s) : xCt Ω yX5_requireSeat cX5_requireSeat 1 none rm_X5_requireSeat [vi s] h (fun q h' => h = h' ∧ q = none ∧ (0 ≤ s ∧ s < 6)) (fun E h' => E = xIO ∧ (¬ (0 ≤ s ∧ s < 6)) ∧ ∃ n, mN h ≤ n ∧ h' = gN h n) := by
  refine xCt_of (ini := false) (by decide +kernel) (Nat.le_of_ble_eq_true rfl) (fun q => absurd q (by decide)) ?_
  generalize hPR : (fun q h' => h = h' ∧ q = none ∧ (0 ≤ s ∧ s < 6) : Option xV → xM → Prop) = PR
  generalize hPX : (fun E h' => E = xIO ∧ (¬ (0 ≤ s ∧ s < 6)) ∧ ∃ n, mN h ≤ n ∧ h' = gN h n : String → xM → Prop) = PX
  have K0 : X Ω RX5 cX5_requireSeat 1 none false rm_X5_requireSeat PR PX 0 0 0 [some (vi s)] [] h := ?_
  exact K0
  obtain ⟨hs1, hs2⟩ := hs
  refine X.iload_n (i := 0) rfl rfl dX5_requireSeat_0 (pc' := 1) rfl ?_
  refine X.iconst dX5_requireSeat_1 (pc' := 2) rfl ?_
  refine X.iconst dX5_requireSeat_2 (pc' := 3) rfl ?_
  refine X.callS (rm := rm_X5_isWithin) (As := [vi s, vi 0, vi 5]) (st := []) dX5_requireSeat_3 ck_X5_43 rfl rfl ⟨Nat.le_of_ble_eq_true rfl, Nat.le_of_ble_eq_true rfl⟩ (Nat.le_of_ble_eq_true rfl) (Nat.le_of_ble_eq_true rfl) (Nat.le_of_ble_eq_true rfl) (pc' := 6) rfl (k_X5_isWithin ⟨by omega, by omega⟩ ⟨by omega, by omega⟩ ⟨by omega, by omega⟩) (fun q1 hq1 eq1 => ?_) (fun _ _ x1 => x1.elim)
  obtain ⟨rfl, r2, rfl, hr2⟩ := eq1
  refine X.if_ne (tgt := 19) dX5_requireSeat_6 ⟨by omega, by omega⟩ (by decide) (pc' := 9) rfl (fun c6 => ?_) (fun c6 => ?_)
  · refine X.vret dX5_requireSeat_19 rfl (Nat.le_of_ble_eq_true rfl) (Nat.le_of_ble_eq_true rfl) ?_
    subst hPR
    exact ⟨rfl, rfl, by omega⟩
  · refine X.throw tk_86_221_90 dX5_requireSeat_9 dX5_requireSeat_12 dX5_requireSeat_13 dX5_requireSeat_15 dX5_requireSeat_18 ⟨Nat.le_of_ble_eq_true rfl, Nat.le_of_ble_eq_true rfl⟩ (Nat.le_of_ble_eq_true rfl) (Nat.le_of_ble_eq_true rfl) (fun n1 hn1 => ?_)
    subst hPX
    exact ⟨rfl, by omega, n1, hn1, rfl⟩
set_option maxHeartbeats 4000000 in
set_option maxRecDepth 100000 in
theorem k_X5_require {Ω : xO} {h : xM} {s : Int} (hs : s = 0 ∨ s = 1) : xCt Ω yX5_require cX5_require 1 none rm_X5_require [vi s] h (fun q h' => h = h' ∧ q = none ∧ s = 1) (fun E h' => E = xIA ∧ (s = 0) ∧ ∃ n, mN h ≤ n ∧ h' = gN h n) := by
  refine xCt_of (ini := false) (by decide +kernel) (Nat.le_of_ble_eq_true rfl) (fun q => absurd q (by decide)) ?_
  generalize hPR : (fun q h' => h = h' ∧ q = none ∧ s = 1 : Option xV → xM → Prop) = PR
  generalize hPX : (fun E h' => E = xIA ∧ (s = 0) ∧ ∃ n, mN h ≤ n ∧ h' = gN h n : String → xM → Prop) = PX
  have K0 : X Ω RX5 cX5_require 1 none false rm_X5_require PR PX 0 0 0 [some (vi s)] [] h := ?_
  exact K0
  refine X.iload_n (i := 0) rfl rfl dX5_require_0 (pc' := 1) rfl ?_
  refine X.if_ne (tgt := 14) dX5_require_1 ⟨by omega, by omega⟩ (by decide) (pc' := 4) rfl (fun c1 => ?_) (fun c1 => ?_)
  · refine X.vret dX5_require_14 rfl (Nat.le_of_ble_eq_true rfl) (Nat.le_of_ble_eq_true rfl) ?_
    subst hPR
    exact ⟨rfl, rfl, by omega⟩
  · refine X.throw tk_223_225_227 dX5_require_4 dX5_require_7 dX5_require_8 dX5_require_10 dX5_require_13 ⟨Nat.le_of_ble_eq_true rfl, Nat.le_of_ble_eq_true rfl⟩ (Nat.le_of_ble_eq_true rfl) (Nat.le_of_ble_eq_true rfl) (fun n1 hn1 => ?_)
    subst hPX
    exact ⟨rfl, by omega, n1, hn1, rfl⟩
set_option maxHeartbeats 4000000 in
set_option maxRecDepth 100000 in
theorem k_X5_say {Ω : xO} {h : xM} {x lo : Nat} {L : lS} {s w m : Int} (hE : EL h x lo L) (irs : inR s) (irw : inR w) (irm : inR m) : xCt Ω yX5_say cX5_say 4 (some .int) rm_X5_say [rf x, vi s, vi w, vi m] h (fun q h' => ((0 ≤ s ∧ s < 6) ∧ ((1 ≤ w ∧ w ≤ 99) ∧ (-1 ≤ m ∧ m ≤ 9)) ∧ (aW (lA L) < 200 ∧ aB (lA L) < 400)) ∧ q = some (vi (aW (lA L))) ∧ EL h' x lo (sA (sSave L) (aEnd (aAdd (lA L) s w m))) ∧ EF h h' x lo) (PX3 ((0 ≤ s ∧ s < 6)) (((1 ≤ w ∧ w ≤ 99) ∧ (-1 ≤ m ∧ m ≤ 9))) ((aW (lA L) < 200 ∧ aB (lA L) < 400)) xIO xIA xIS h) := by
  refine xCt_of (ini := false) (by decide +kernel) (Nat.le_of_ble_eq_true rfl) (fun q => absurd q (by decide)) ?_
  generalize hPR : (fun q h' => ((0 ≤ s ∧ s < 6) ∧ ((1 ≤ w ∧ w ≤ 99) ∧ (-1 ≤ m ∧ m ≤ 9)) ∧ (aW (lA L) < 200 ∧ aB (lA L) < 400)) ∧ q = some (vi (aW (lA L))) ∧ EL h' x lo (sA (sSave L) (aEnd (aAdd (lA L) s w m))) ∧ EF h h' x lo : Option xV → xM → Prop) = PR
  generalize hPX : (PX3 ((0 ≤ s ∧ s < 6)) (((1 ≤ w ∧ w ≤ 99) ∧ (-1 ≤ m ∧ m ≤ 9))) ((aW (lA L) < 200 ∧ aB (lA L) < 400)) xIO xIA xIS h : String → xM → Prop) = PX
  have K0 : X Ω RX5 cX5_say 4 (some .int) false rm_X5_say PR PX 0 0 0 [some (rf x), some (vi s), some (vi w), some (vi m)] [] h := ?_
  exact K0
  have okA : aOK (lA L) := hE.2.1.1.2.1
  obtain ⟨okB, okN, okWl, okS, okW, okM, okC, okH⟩ := id hE.2.1.1.2.1
  have hlo := hE.2.2.2.2.2.2
  have hz6 := hE.2.2.1.2.2.1
  have hnB : mI h (x + 1) 0 = aB (lA L) := hE.2.1.1.2.2.1
  have hnW : mI h (x + 1) 1 = aW (lA L) := hE.2.1.1.2.2.2.1
  have hHz : mI h (x + 31) 0 = lZ L := hE.2.2.1.2.1
  have hTn : mI h (x + 33) 0 = lTn L := hE.2.2.2.2.1.1
  have hTr := hE.2.2.2.2.1.2.1
  obtain ⟨irs1, irs2⟩ := irs
  obtain ⟨irw1, irw2⟩ := irw
  obtain ⟨irm1, irm2⟩ := irm
  refine X.iload_n (i := 1) rfl rfl dX5_say_0 (pc' := 1) rfl ?_
  refine X.callS (rm := rm_X5_requireSeat) (As := [vi s]) (st := []) dX5_say_1 ck_X5_39 rfl rfl ⟨Nat.le_of_ble_eq_true rfl, Nat.le_of_ble_eq_true rfl⟩ (Nat.le_of_ble_eq_true rfl) (Nat.le_of_ble_eq_true rfl) (Nat.le_of_ble_eq_true rfl) (pc' := 4) rfl (k_X5_requireSeat ⟨by omega, by omega⟩) (fun q1 hq1 eq1 => ?_) (fun E1 z1 x1 => ?_)
  rotate_left
  · subst hPX
    obtain ⟨e, hh, n, hn, rfl⟩ := x1
    first | (exfalso; omega) | exact ⟨⟨n, hn, rfl⟩, Or.inl ⟨by (try unfold stOK); omega, e⟩⟩
  obtain ⟨rfl, rfl, hse⟩ := eq1
  refine X.iload_n (i := 2) rfl rfl dX5_say_4 (pc' := 5) rfl ?_
  refine X.iconst dX5_say_5 (pc' := 6) rfl ?_
  refine X.bipush (by decide +kernel) dX5_say_6 (pc' := 8) rfl ?_
  refine X.callS (rm := rm_X5_isWithin) (As := [vi w, vi 1, vi 99]) (st := []) dX5_say_8 ck_X5_43 rfl rfl ⟨Nat.le_of_ble_eq_true rfl, Nat.le_of_ble_eq_true rfl⟩ (Nat.le_of_ble_eq_true rfl) (Nat.le_of_ble_eq_true rfl) (Nat.le_of_ble_eq_true rfl) (pc' := 11) rfl (k_X5_isWithin ⟨by omega, by omega⟩ ⟨by omega, by omega⟩ ⟨by omega, by omega⟩) (fun q2 hq2 eq2 => ?_) (fun _ _ x1 => x1.elim)
  obtain ⟨rfl, r3, rfl, hr3⟩ := eq2
  refine X.if_eq (tgt := 28) dX5_say_11 ⟨by omega, by omega⟩ (by decide) (pc' := 14) rfl (fun c11 => ?_) (fun c11 => ?_)
  · refine X.iconst dX5_say_28 (pc' := 29) rfl ?_
    refine X.callS (rm := rm_X5_require) (As := [vi 0]) (st := []) dX5_say_29 ck_X5_47 rfl rfl ⟨Nat.le_of_ble_eq_true rfl, Nat.le_of_ble_eq_true rfl⟩ (Nat.le_of_ble_eq_true rfl) (Nat.le_of_ble_eq_true rfl) (Nat.le_of_ble_eq_true rfl) (pc' := 32) rfl (k_X5_require (by omega)) (fun q4 hq4 eq4 => ?_) (fun E1 z1 x1 => ?_)
    rotate_left
    · subst hPX
      obtain ⟨e, hh, n, hn, rfl⟩ := x1
      first | (exfalso; omega) | exact ⟨⟨n, hn, rfl⟩, Or.inr (Or.inl ⟨by (try unfold stOK); omega, by (try unfold stOK); omega, e⟩)⟩
    obtain ⟨rfl, rfl, hrq⟩ := eq4
    exact absurd hrq (by decide)
  · refine X.iload_n (i := 3) rfl rfl dX5_say_14 (pc' := 15) rfl ?_
    refine X.iconst dX5_say_15 (pc' := 16) rfl ?_
    refine X.bipush (by decide +kernel) dX5_say_16 (pc' := 18) rfl ?_
    refine X.callS (rm := rm_X5_isWithin) (As := [vi m, vi ((-1)), vi 9]) (st := []) dX5_say_18 ck_X5_43 rfl rfl ⟨Nat.le_of_ble_eq_true rfl, Nat.le_of_ble_eq_true rfl⟩ (Nat.le_of_ble_eq_true rfl) (Nat.le_of_ble_eq_true rfl) (Nat.le_of_ble_eq_true rfl) (pc' := 21) rfl (k_X5_isWithin ⟨by omega, by omega⟩ ⟨by omega, by omega⟩ ⟨by omega, by omega⟩) (fun q5 hq5 eq5 => ?_) (fun _ _ x1 => x1.elim)
    obtain ⟨rfl, r6, rfl, hr6⟩ := eq5
    refine X.if_eq (tgt := 28) dX5_say_21 ⟨by omega, by omega⟩ (by decide) (pc' := 24) rfl (fun c21 => ?_) (fun c21 => ?_)
    · refine X.iconst dX5_say_28 (pc' := 29) rfl ?_
      refine X.callS (rm := rm_X5_require) (As := [vi 0]) (st := []) dX5_say_29 ck_X5_47 rfl rfl ⟨Nat.le_of_ble_eq_true rfl, Nat.le_of_ble_eq_true rfl⟩ (Nat.le_of_ble_eq_true rfl) (Nat.le_of_ble_eq_true rfl) (Nat.le_of_ble_eq_true rfl) (pc' := 32) rfl (k_X5_require (by omega)) (fun q7 hq7 eq7 => ?_) (fun E1 z1 x1 => ?_)
      rotate_left
      · subst hPX
        obtain ⟨e, hh, n, hn, rfl⟩ := x1
        first | (exfalso; omega) | exact ⟨⟨n, hn, rfl⟩, Or.inr (Or.inl ⟨by (try unfold stOK); omega, by (try unfold stOK); omega, e⟩)⟩
      obtain ⟨rfl, rfl, hrq⟩ := eq7
      exact absurd hrq (by decide)
    · refine X.iconst dX5_say_24 (pc' := 25) rfl ?_
      refine X.goto (tgt := 29) dX5_say_25 (by decide) ?_
      refine X.callS (rm := rm_X5_require) (As := [vi 1]) (st := []) dX5_say_29 ck_X5_47 rfl rfl ⟨Nat.le_of_ble_eq_true rfl, Nat.le_of_ble_eq_true rfl⟩ (Nat.le_of_ble_eq_true rfl) (Nat.le_of_ble_eq_true rfl) (Nat.le_of_ble_eq_true rfl) (pc' := 32) rfl (k_X5_require (by omega)) (fun q8 hq8 eq8 => ?_) (fun E1 z1 x1 => ?_)
      rotate_left
      · subst hPX
        obtain ⟨e, hh, n, hn, rfl⟩ := x1
        first | (exfalso; omega) | exact ⟨⟨n, hn, rfl⟩, Or.inr (Or.inl ⟨by (try unfold stOK); omega, by (try unfold stOK); omega, e⟩)⟩
      obtain ⟨rfl, rfl, hrq⟩ := eq8
      refine X.aload_n (i := 0) rfl rfl dX5_say_32 (pc' := 33) rfl ?_
      refine X.getR fk_X5_10 xcl_5 dX5_say_33 hE.1.1 hE.1.2.1 (pc' := 36) rfl ?_
      refine X.callV (ci := 0) (a := (x + 1)) (rm := rm_X0_canSpeak) (As := []) (st := []) dX5_say_36 ck_X5_51 rfl (by decide) hE.2.1.1.1.1 rfl rfl ⟨Nat.le_of_ble_eq_true rfl, Nat.le_of_ble_eq_true rfl⟩ (Nat.le_of_ble_eq_true rfl) (Nat.le_of_ble_eq_true rfl) (Nat.le_of_ble_eq_true rfl) (pc' := 39) rfl (k_X0_canSpeak hE.2.1.1.1) (fun q9 hq9 eq9 => ?_) (fun _ _ x1 => x1.elim)
      obtain ⟨rfl, r10, rfl, hr10⟩ := eq9
      refine X.if_ne (tgt := 52) dX5_say_39 ⟨by omega, by omega⟩ (by decide) (pc' := 42) rfl (fun c39 => ?_) (fun c39 => ?_)
      · refine X.aload_n (i := 0) rfl rfl dX5_say_52 (pc' := 53) rfl ?_
        refine X.getR fk_X5_28 xcl_5 dX5_say_53 hE.1.1 hE.1.2.2.2.1 (pc' := 56) rfl ?_
        refine X.aload_n (i := 0) rfl rfl dX5_say_56 (pc' := 57) rfl ?_
        refine X.getR fk_X5_10 xcl_5 dX5_say_57 hE.1.1 hE.1.2.1 (pc' := 60) rfl ?_
        refine X.callV (ci := 2) (a := (x + 31)) (rm := rm_X2_save) (As := [rf ((x + 1))]) (st := []) dX5_say_60 ck_X5_62 rfl (by decide) hE.1.2.2.2.2.2.2.2.1.1 rfl rfl ⟨Nat.le_of_ble_eq_true rfl, Nat.le_of_ble_eq_true rfl⟩ (Nat.le_of_ble_eq_true rfl) (Nat.le_of_ble_eq_true rfl) (Nat.le_of_ble_eq_true rfl) (pc' := 63) rfl (k_X2_save hE.2.2.1 hE.2.1 (by omega) (by omega) (by omega)) (fun q11 hq11 eq11 => ?_) (fun _ _ x1 => x1.elim)
        obtain ⟨rfl, hHs, hFs⟩ := eq11
        have hE2 := hE.save hHs hFs
        have hR2 : RC hq11 (x + 1) (lA L) := hE2.1.2.1
        refine X.aload_n (i := 0) rfl rfl dX5_say_63 (pc' := 64) rfl ?_
        refine X.getR fk_X5_10 xcl_5 dX5_say_64 hE2.1.1.1 hE2.1.1.2.1 (pc' := 67) rfl ?_
        refine X.iload_n (i := 1) rfl rfl dX5_say_67 (pc' := 68) rfl ?_
        refine X.iload_n (i := 2) rfl rfl dX5_say_68 (pc' := 69) rfl ?_
        refine X.iload_n (i := 3) rfl rfl dX5_say_69 (pc' := 70) rfl ?_
        refine X.callV (ci := 0) (a := (x + 1)) (rm := rm_X0_speak) (As := [vi s, vi w, vi m]) (st := []) dX5_say_70 ck_X5_65 rfl (by decide) hR2.1.1.1 rfl rfl ⟨Nat.le_of_ble_eq_true rfl, Nat.le_of_ble_eq_true rfl⟩ (Nat.le_of_ble_eq_true rfl) (Nat.le_of_ble_eq_true rfl) (Nat.le_of_ble_eq_true rfl) (pc' := 73) rfl (k_X0_speak hR2 hE.2.2.2.2.2.1.1 (by omega) (by omega) ⟨by omega, by omega⟩ ⟨by omega, by omega⟩ ⟨by omega, by omega⟩) (fun q12 hq12 eq12 => ?_) (fun _ _ x1 => x1.elim)
        obtain ⟨rfl, hRE, hFE⟩ := eq12
        have hE3 := hE2.1.now hRE hFE (aEnd_past (aAdd_ok okA hE.2.2.2.2.2.1.1 (by omega) ⟨by omega, by omega⟩ ⟨by omega, by omega⟩ ⟨by omega, by omega⟩))
        refine X.iret dX5_say_73 (Or.inl rfl) (Nat.le_of_ble_eq_true rfl) (Nat.le_of_ble_eq_true rfl) ?_
        subst hPR
        exact ⟨⟨by omega, by omega, by omega⟩, rfl, hE3.1, hE2.2.tr hE3.2⟩
      · refine X.throw tk_55_57_59 dX5_say_42 dX5_say_45 dX5_say_46 dX5_say_48 dX5_say_51 ⟨Nat.le_of_ble_eq_true rfl, Nat.le_of_ble_eq_true rfl⟩ (Nat.le_of_ble_eq_true rfl) (Nat.le_of_ble_eq_true rfl) (fun n1 hn1 => ?_)
        subst hPX
        exact ⟨⟨n1, hn1, rfl⟩, Or.inr (Or.inr ⟨by (try unfold stOK); omega, by (try unfold stOK); omega, by (try unfold stOK); omega, rfl⟩)⟩
set_option maxHeartbeats 4000000 in
set_option maxRecDepth 100000 in
theorem k_X5_pass {Ω : xO} {h : xM} {x lo : Nat} {L : lS} {n : Int} (hE : EL h x lo L) (irn : inR n) : xCt Ω yX5_pass cX5_pass 2 (some .int) rm_X5_pass [rf x, vi n] h (fun q h' => ((1 ≤ n ∧ n ≤ 50) ∧ aB (lA L) + n ≤ 400) ∧ q = some (vi (aB (lA L) + n)) ∧ EL h' x lo (sA (sSave L) (aRest (lA L) n.toNat)) ∧ EF h h' x lo) (PX3 (1 ≤ n ∧ n ≤ 50) (aB (lA L) + n ≤ 400) (True) xIA xIS xIS h) := by
  refine xCt_of (ini := false) (by decide +kernel) (Nat.le_of_ble_eq_true rfl) (fun q => absurd q (by decide)) ?_
  generalize hPR : (fun q h' => ((1 ≤ n ∧ n ≤ 50) ∧ aB (lA L) + n ≤ 400) ∧ q = some (vi (aB (lA L) + n)) ∧ EL h' x lo (sA (sSave L) (aRest (lA L) n.toNat)) ∧ EF h h' x lo : Option xV → xM → Prop) = PR
  generalize hPX : (PX3 (1 ≤ n ∧ n ≤ 50) (aB (lA L) + n ≤ 400) (True) xIA xIS xIS h : String → xM → Prop) = PX
  have K0 : X Ω RX5 cX5_pass 2 (some .int) false rm_X5_pass PR PX 0 0 0 [some (rf x), some (vi n)] [] h := ?_
  exact K0
  have okA : aOK (lA L) := hE.2.1.1.2.1
  obtain ⟨okB, okN, okWl, okS, okW, okM, okC, okH⟩ := id hE.2.1.1.2.1
  have hlo := hE.2.2.2.2.2.2
  have hz6 := hE.2.2.1.2.2.1
  have hnB : mI h (x + 1) 0 = aB (lA L) := hE.2.1.1.2.2.1
  have hnW : mI h (x + 1) 1 = aW (lA L) := hE.2.1.1.2.2.2.1
  have hHz : mI h (x + 31) 0 = lZ L := hE.2.2.1.2.1
  have hTn : mI h (x + 33) 0 = lTn L := hE.2.2.2.2.1.1
  have hTr := hE.2.2.2.2.1.2.1
  obtain ⟨irn1, irn2⟩ := irn
  refine X.iload_n (i := 1) rfl rfl dX5_pass_0 (pc' := 1) rfl ?_
  refine X.iconst dX5_pass_1 (pc' := 2) rfl ?_
  refine X.bipush (by decide +kernel) dX5_pass_2 (pc' := 4) rfl ?_
  refine X.callS (rm := rm_X5_isWithin) (As := [vi n, vi 1, vi 50]) (st := []) dX5_pass_4 ck_X5_43 rfl rfl ⟨Nat.le_of_ble_eq_true rfl, Nat.le_of_ble_eq_true rfl⟩ (Nat.le_of_ble_eq_true rfl) (Nat.le_of_ble_eq_true rfl) (Nat.le_of_ble_eq_true rfl) (pc' := 7) rfl (k_X5_isWithin ⟨by omega, by omega⟩ ⟨by omega, by omega⟩ ⟨by omega, by omega⟩) (fun q1 hq1 eq1 => ?_) (fun _ _ x1 => x1.elim)
  obtain ⟨rfl, r2, rfl, hr2⟩ := eq1
  refine X.callS (rm := rm_X5_require) (As := [vi r2]) (st := []) dX5_pass_7 ck_X5_47 rfl rfl ⟨Nat.le_of_ble_eq_true rfl, Nat.le_of_ble_eq_true rfl⟩ (Nat.le_of_ble_eq_true rfl) (Nat.le_of_ble_eq_true rfl) (Nat.le_of_ble_eq_true rfl) (pc' := 10) rfl (k_X5_require (by omega)) (fun q3 hq3 eq3 => ?_) (fun E1 z1 x1 => ?_)
  rotate_left
  · subst hPX
    obtain ⟨e, hh, n, hn, rfl⟩ := x1
    first | (exfalso; omega) | exact ⟨⟨n, hn, rfl⟩, Or.inl ⟨by (try unfold stOK); omega, e⟩⟩
  obtain ⟨rfl, rfl, hrq⟩ := eq3
  refine X.aload_n (i := 0) rfl rfl dX5_pass_10 (pc' := 11) rfl ?_
  refine X.getR fk_X5_10 xcl_5 dX5_pass_11 hE.1.1 hE.1.2.1 (pc' := 14) rfl ?_
  refine X.iload_n (i := 1) rfl rfl dX5_pass_14 (pc' := 15) rfl ?_
  refine X.callV (ci := 0) (a := (x + 1)) (rm := rm_X0_canRest) (As := [vi n]) (st := []) dX5_pass_15 ck_X5_69 rfl (by decide) hE.2.1.1.1.1 rfl rfl ⟨Nat.le_of_ble_eq_true rfl, Nat.le_of_ble_eq_true rfl⟩ (Nat.le_of_ble_eq_true rfl) (Nat.le_of_ble_eq_true rfl) (Nat.le_of_ble_eq_true rfl) (pc' := 18) rfl (k_X0_canRest hE.2.1.1.1 ⟨by omega, by omega⟩ ⟨by omega, by omega⟩) (fun q4 hq4 eq4 => ?_) (fun _ _ x1 => x1.elim)
  obtain ⟨rfl, r5, rfl, hr5⟩ := eq4
  refine X.if_ne (tgt := 31) dX5_pass_18 ⟨by omega, by omega⟩ (by decide) (pc' := 21) rfl (fun c18 => ?_) (fun c18 => ?_)
  · refine X.aload_n (i := 0) rfl rfl dX5_pass_31 (pc' := 32) rfl ?_
    refine X.getR fk_X5_28 xcl_5 dX5_pass_32 hE.1.1 hE.1.2.2.2.1 (pc' := 35) rfl ?_
    refine X.aload_n (i := 0) rfl rfl dX5_pass_35 (pc' := 36) rfl ?_
    refine X.getR fk_X5_10 xcl_5 dX5_pass_36 hE.1.1 hE.1.2.1 (pc' := 39) rfl ?_
    refine X.callV (ci := 2) (a := (x + 31)) (rm := rm_X2_save) (As := [rf ((x + 1))]) (st := []) dX5_pass_39 ck_X5_62 rfl (by decide) hE.1.2.2.2.2.2.2.2.1.1 rfl rfl ⟨Nat.le_of_ble_eq_true rfl, Nat.le_of_ble_eq_true rfl⟩ (Nat.le_of_ble_eq_true rfl) (Nat.le_of_ble_eq_true rfl) (Nat.le_of_ble_eq_true rfl) (pc' := 42) rfl (k_X2_save hE.2.2.1 hE.2.1 (by omega) (by omega) (by omega)) (fun q6 hq6 eq6 => ?_) (fun _ _ x1 => x1.elim)
    obtain ⟨rfl, hHs, hFs⟩ := eq6
    have hE2 := hE.save hHs hFs
    have hR2 : RC hq6 (x + 1) (lA L) := hE2.1.2.1
    refine X.aload_n (i := 0) rfl rfl dX5_pass_42 (pc' := 43) rfl ?_
    refine X.getR fk_X5_10 xcl_5 dX5_pass_43 hE2.1.1.1 hE2.1.1.2.1 (pc' := 46) rfl ?_
    refine X.iload_n (i := 1) rfl rfl dX5_pass_46 (pc' := 47) rfl ?_
    refine X.callV (ci := 0) (a := (x + 1)) (rm := rm_X0_rest) (As := [vi n]) (st := []) dX5_pass_47 ck_X5_75 rfl (by decide) hR2.1.1.1 rfl rfl ⟨Nat.le_of_ble_eq_true rfl, Nat.le_of_ble_eq_true rfl⟩ (Nat.le_of_ble_eq_true rfl) (Nat.le_of_ble_eq_true rfl) (Nat.le_of_ble_eq_true rfl) (pc' := 50) rfl (k_X0_rest hR2 ⟨by omega, by omega⟩) (fun q7 hq7 eq7 => ?_) (fun _ _ x1 => x1.elim)
    obtain ⟨rfl, hRE, hFE⟩ := eq7
    have hE3 := hE2.1.now hRE hFE (aPast_rest okA hE.2.2.2.2.2.1.1 n.toNat (by omega)).1
    have hBr := aB_rest (lA L) n.toNat
    have hBr2 : mI hq7 (x + 1) 0 = aB (aRest (lA L) n.toNat) := hRE.1.2.2.1
    refine X.aload_n (i := 0) rfl rfl dX5_pass_50 (pc' := 51) rfl ?_
    refine X.getR fk_X5_10 xcl_5 dX5_pass_51 hE3.1.1.1 hE3.1.1.2.1 (pc' := 54) rfl ?_
    refine X.getI (x := mI hq7 ((x + 1)) 0) fk_X5_78 xcl_0 dX5_pass_54 (by decide) hE3.1.1.2.2.2.2.2.1.1 rfl (pc' := 57) rfl (fun r8 => ?_)
    obtain ⟨r8a, r8b⟩ := r8
    refine X.iret dX5_pass_57 (Or.inl rfl) (Nat.le_of_ble_eq_true rfl) (Nat.le_of_ble_eq_true rfl) ?_
    subst hPR
    exact ⟨⟨by omega, by omega⟩, by rw [show mI hq7 ((x + 1)) 0 = aB (lA L) + n by omega], hE3.1, hE2.2.tr hE3.2⟩
  · refine X.throw tk_55_73_59 dX5_pass_21 dX5_pass_24 dX5_pass_25 dX5_pass_27 dX5_pass_30 ⟨Nat.le_of_ble_eq_true rfl, Nat.le_of_ble_eq_true rfl⟩ (Nat.le_of_ble_eq_true rfl) (Nat.le_of_ble_eq_true rfl) (fun n1 hn1 => ?_)
    subst hPX
    exact ⟨⟨n1, hn1, rfl⟩, Or.inr (Or.inl ⟨by (try unfold stOK); omega, by (try unfold stOK); omega, rfl⟩)⟩
set_option maxHeartbeats 4000000 in
set_option maxRecDepth 100000 in
theorem k_X5_wall {Ω : xO} {h : xM} {x lo : Nat} {L : lS} {s k : Int} (hE : EL h x lo L) (irs : inR s) (irk : inR k) : xCt Ω yX5_wall cX5_wall 4 (some .int) rm_X5_wall [rf x, vi s, vi k] h (fun q h' => ((0 ≤ s ∧ s < 6) ∧ (0 ≤ k ∧ k ≤ 3)) ∧ q = some (vi (aWl (lA L) s)) ∧ EL h' x lo (sA (sSave L) (aSWl (lA L) s k)) ∧ EF h h' x lo) (PX3 ((0 ≤ s ∧ s < 6)) ((0 ≤ k ∧ k ≤ 3)) (True) xIO xIA xIS h) := by
  refine xCt_of (ini := false) (by decide +kernel) (Nat.le_of_ble_eq_true rfl) (fun q => absurd q (by decide)) ?_
  generalize hPR : (fun q h' => ((0 ≤ s ∧ s < 6) ∧ (0 ≤ k ∧ k ≤ 3)) ∧ q = some (vi (aWl (lA L) s)) ∧ EL h' x lo (sA (sSave L) (aSWl (lA L) s k)) ∧ EF h h' x lo : Option xV → xM → Prop) = PR
  generalize hPX : (PX3 ((0 ≤ s ∧ s < 6)) ((0 ≤ k ∧ k ≤ 3)) (True) xIO xIA xIS h : String → xM → Prop) = PX
  have K0 : X Ω RX5 cX5_wall 4 (some .int) false rm_X5_wall PR PX 0 0 0 [some (rf x), some (vi s), some (vi k), none] [] h := ?_
  exact K0
  have okA : aOK (lA L) := hE.2.1.1.2.1
  obtain ⟨okB, okN, okWl, okS, okW, okM, okC, okH⟩ := id hE.2.1.1.2.1
  have hlo := hE.2.2.2.2.2.2
  have hz6 := hE.2.2.1.2.2.1
  have hnB : mI h (x + 1) 0 = aB (lA L) := hE.2.1.1.2.2.1
  have hnW : mI h (x + 1) 1 = aW (lA L) := hE.2.1.1.2.2.2.1
  have hHz : mI h (x + 31) 0 = lZ L := hE.2.2.1.2.1
  have hTn : mI h (x + 33) 0 = lTn L := hE.2.2.2.2.1.1
  have hTr := hE.2.2.2.2.1.2.1
  obtain ⟨irs1, irs2⟩ := irs
  obtain ⟨irk1, irk2⟩ := irk
  refine X.iload_n (i := 1) rfl rfl dX5_wall_0 (pc' := 1) rfl ?_
  refine X.callS (rm := rm_X5_requireSeat) (As := [vi s]) (st := []) dX5_wall_1 ck_X5_39 rfl rfl ⟨Nat.le_of_ble_eq_true rfl, Nat.le_of_ble_eq_true rfl⟩ (Nat.le_of_ble_eq_true rfl) (Nat.le_of_ble_eq_true rfl) (Nat.le_of_ble_eq_true rfl) (pc' := 4) rfl (k_X5_requireSeat ⟨by omega, by omega⟩) (fun q1 hq1 eq1 => ?_) (fun E1 z1 x1 => ?_)
  rotate_left
  · subst hPX
    obtain ⟨e, hh, n, hn, rfl⟩ := x1
    first | (exfalso; omega) | exact ⟨⟨n, hn, rfl⟩, Or.inl ⟨by (try unfold stOK); omega, e⟩⟩
  obtain ⟨rfl, rfl, hse⟩ := eq1
  refine X.iload_n (i := 2) rfl rfl dX5_wall_4 (pc' := 5) rfl ?_
  refine X.iconst dX5_wall_5 (pc' := 6) rfl ?_
  refine X.iconst dX5_wall_6 (pc' := 7) rfl ?_
  refine X.callS (rm := rm_X5_isWithin) (As := [vi k, vi 0, vi 3]) (st := []) dX5_wall_7 ck_X5_43 rfl rfl ⟨Nat.le_of_ble_eq_true rfl, Nat.le_of_ble_eq_true rfl⟩ (Nat.le_of_ble_eq_true rfl) (Nat.le_of_ble_eq_true rfl) (Nat.le_of_ble_eq_true rfl) (pc' := 10) rfl (k_X5_isWithin ⟨by omega, by omega⟩ ⟨by omega, by omega⟩ ⟨by omega, by omega⟩) (fun q2 hq2 eq2 => ?_) (fun _ _ x1 => x1.elim)
  obtain ⟨rfl, r3, rfl, hr3⟩ := eq2
  refine X.callS (rm := rm_X5_require) (As := [vi r3]) (st := []) dX5_wall_10 ck_X5_47 rfl rfl ⟨Nat.le_of_ble_eq_true rfl, Nat.le_of_ble_eq_true rfl⟩ (Nat.le_of_ble_eq_true rfl) (Nat.le_of_ble_eq_true rfl) (Nat.le_of_ble_eq_true rfl) (pc' := 13) rfl (k_X5_require (by omega)) (fun q4 hq4 eq4 => ?_) (fun E1 z1 x1 => ?_)
  rotate_left
  · subst hPX
    obtain ⟨e, hh, n, hn, rfl⟩ := x1
    first | (exfalso; omega) | exact ⟨⟨n, hn, rfl⟩, Or.inr (Or.inl ⟨by (try unfold stOK); omega, by (try unfold stOK); omega, e⟩)⟩
  obtain ⟨rfl, rfl, hrq⟩ := eq4
  refine X.aload_n (i := 0) rfl rfl dX5_wall_13 (pc' := 14) rfl ?_
  refine X.getR fk_X5_28 xcl_5 dX5_wall_14 hE.1.1 hE.1.2.2.2.1 (pc' := 17) rfl ?_
  refine X.aload_n (i := 0) rfl rfl dX5_wall_17 (pc' := 18) rfl ?_
  refine X.getR fk_X5_10 xcl_5 dX5_wall_18 hE.1.1 hE.1.2.1 (pc' := 21) rfl ?_
  refine X.callV (ci := 2) (a := (x + 31)) (rm := rm_X2_save) (As := [rf ((x + 1))]) (st := []) dX5_wall_21 ck_X5_62 rfl (by decide) hE.1.2.2.2.2.2.2.2.1.1 rfl rfl ⟨Nat.le_of_ble_eq_true rfl, Nat.le_of_ble_eq_true rfl⟩ (Nat.le_of_ble_eq_true rfl) (Nat.le_of_ble_eq_true rfl) (Nat.le_of_ble_eq_true rfl) (pc' := 24) rfl (k_X2_save hE.2.2.1 hE.2.1 (by omega) (by omega) (by omega)) (fun q5 hq5 eq5 => ?_) (fun _ _ x1 => x1.elim)
  obtain ⟨rfl, hHs, hFs⟩ := eq5
  have hE2 := hE.save hHs hFs
  have hR2 : RC hq5 (x + 1) (lA L) := hE2.1.2.1
  refine X.aload_n (i := 0) rfl rfl dX5_wall_24 (pc' := 25) rfl ?_
  refine X.getR fk_X5_10 xcl_5 dX5_wall_25 hE2.1.1.1 hE2.1.1.2.1 (pc' := 28) rfl ?_
  refine X.getR fk_X5_82 xcl_0 dX5_wall_28 hR2.1.1.1 hR2.1.1.2.1.1 (pc' := 31) rfl ?_
  refine X.iload_n (i := 1) rfl rfl dX5_wall_31 (pc' := 32) rfl ?_
  refine X.iald (x := aWl (lA L) s) dX5_wall_32 hR2.1.1.2.1.2 (by omega) (by omega) ⟨by omega, by omega⟩ (hR2.1.2.2.2.2.1 s (by omega) (by omega)) (pc' := 33) rfl (fun r6 => ?_)
  obtain ⟨r6a, r6b⟩ := r6
  have r6c := hR2.1.2.1.2.2.1 s (by omega) (by omega)
  refine X.gen (fun had hhad => ?_)
  refine X.istore_n (i := 3) (ls' := [some (rf x), some (vi s), some (vi k), some (vi had)]) (hi := rfl) (hd := dX5_wall_33) (by decide) rfl rfl (pc' := 34) rfl ?_
  refine X.aload_n (i := 0) rfl rfl dX5_wall_34 (pc' := 35) rfl ?_
  refine X.getR fk_X5_10 xcl_5 dX5_wall_35 hE2.1.1.1 hE2.1.1.2.1 (pc' := 38) rfl ?_
  refine X.getR fk_X5_82 xcl_0 dX5_wall_38 hR2.1.1.1 hR2.1.1.2.1.1 (pc' := 41) rfl ?_
  refine X.iload_n (i := 1) rfl rfl dX5_wall_41 (pc' := 42) rfl ?_
  refine X.iload_n (i := 2) rfl rfl dX5_wall_42 (pc' := 43) rfl ?_
  refine X.iast dX5_wall_43 hR2.1.1.2.1.2 (by omega) (by omega) ⟨by omega, by omega⟩ ⟨by omega, by omega⟩ (pc' := 44) rfl ?_
  refine X.genH (fun h7 hh7 => ?_)
  have wh7 : ∀ (w0 : Nat) (w1 : Int), mI h7 w0 w1 = if w0 = ((x + 1) + 1) ∧ w1 = s then k else mI hq5 w0 w1 := fun _ _ => by rw [hh7]; rfl
  have S8 : ElS h7 x := by rw [hh7]; exact hE2.1.1
  have S9 : ChS h7 ((x + 1)) := by rw [hh7]; exact hR2.1.1
  refine X.iload_n (i := 3) rfl rfl dX5_wall_44 (pc' := 45) rfl ?_
  refine X.iret dX5_wall_45 (Or.inl rfl) (Nat.le_of_ble_eq_true rfl) (Nat.le_of_ble_eq_true rfl) ?_
  subst hPR
  have hE3 := hE2.1.now (A := aSWl (lA L) s k) (RC_wl hR2 (by omega) (by rw [hh7]; rfl) (by rw [hh7]; rfl) wh7) (by rw [hh7]; exact Fr.w Fr.rf ⟨by omega, by omega⟩) hE.2.2.2.2.2.1.1
  exact ⟨⟨by omega, by omega⟩, by rw [hhad], hE3.1, hE2.2.tr hE3.2⟩
set_option maxHeartbeats 4000000 in
set_option maxRecDepth 100000 in
theorem k_X5_set {Ω : xO} {h : xM} {x lo : Nat} {L : lS} {s k : Int} (hE : EL h x lo L) (irs : inR s) (irk : inR k) : xCt Ω yX5_set cX5_set 4 (some .int) rm_X5_set [rf x, vi s, vi k] h (fun q h' => ((0 ≤ s ∧ s ≤ 2) ∧ stOK s k) ∧ q = some (vi (aSt (lA L) s)) ∧ EL h' x lo (sA (sSave L) (aSSt (lA L) s k)) ∧ EF h h' x lo) (PX3 (0 ≤ s ∧ s ≤ 2) (stOK s k) (True) xIO xIA xIS h) := by
  refine xCt_of (ini := false) (by decide +kernel) (Nat.le_of_ble_eq_true rfl) (fun q => absurd q (by decide)) ?_
  generalize hPR : (fun q h' => ((0 ≤ s ∧ s ≤ 2) ∧ stOK s k) ∧ q = some (vi (aSt (lA L) s)) ∧ EL h' x lo (sA (sSave L) (aSSt (lA L) s k)) ∧ EF h h' x lo : Option xV → xM → Prop) = PR
  generalize hPX : (PX3 (0 ≤ s ∧ s ≤ 2) (stOK s k) (True) xIO xIA xIS h : String → xM → Prop) = PX
  have K0 : X Ω RX5 cX5_set 4 (some .int) false rm_X5_set PR PX 0 0 0 [some (rf x), some (vi s), some (vi k), none] [] h := ?_
  exact K0
  have okA : aOK (lA L) := hE.2.1.1.2.1
  obtain ⟨okB, okN, okWl, okS, okW, okM, okC, okH⟩ := id hE.2.1.1.2.1
  have hlo := hE.2.2.2.2.2.2
  have hz6 := hE.2.2.1.2.2.1
  have hnB : mI h (x + 1) 0 = aB (lA L) := hE.2.1.1.2.2.1
  have hnW : mI h (x + 1) 1 = aW (lA L) := hE.2.1.1.2.2.2.1
  have hHz : mI h (x + 31) 0 = lZ L := hE.2.2.1.2.1
  have hTn : mI h (x + 33) 0 = lTn L := hE.2.2.2.2.1.1
  have hTr := hE.2.2.2.2.1.2.1
  obtain ⟨irs1, irs2⟩ := irs
  obtain ⟨irk1, irk2⟩ := irk
  refine X.iload_n (i := 1) rfl rfl dX5_set_0 (pc' := 1) rfl ?_
  refine X.iconst dX5_set_1 (pc' := 2) rfl ?_
  refine X.iconst dX5_set_2 (pc' := 3) rfl ?_
  refine X.callS (rm := rm_X5_isWithin) (As := [vi s, vi 0, vi 2]) (st := []) dX5_set_3 ck_X5_43 rfl rfl ⟨Nat.le_of_ble_eq_true rfl, Nat.le_of_ble_eq_true rfl⟩ (Nat.le_of_ble_eq_true rfl) (Nat.le_of_ble_eq_true rfl) (Nat.le_of_ble_eq_true rfl) (pc' := 6) rfl (k_X5_isWithin ⟨by omega, by omega⟩ ⟨by omega, by omega⟩ ⟨by omega, by omega⟩) (fun q1 hq1 eq1 => ?_) (fun _ _ x1 => x1.elim)
  obtain ⟨rfl, r2, rfl, hr2⟩ := eq1
  refine X.if_ne (tgt := 19) dX5_set_6 ⟨by omega, by omega⟩ (by decide) (pc' := 9) rfl (fun c6 => ?_) (fun c6 => ?_)
  · refine X.iload_n (i := 2) rfl rfl dX5_set_19 (pc' := 20) rfl ?_
    refine X.gets0 dX5_set_20 wd_527 (pc' := 23) rfl ?_
    refine X.iload_n (i := 1) rfl rfl dX5_set_23 (pc' := 24) rfl ?_
    refine X.tald0 dX5_set_24 (by omega) (by omega) (pc' := 25) rfl ?_
    refine X.gen (fun x3 hx3 => ?_)
    refine X.gets1 dX5_set_25 wd_529 (pc' := 28) rfl ?_
    refine X.iload_n (i := 1) rfl rfl dX5_set_28 (pc' := 29) rfl ?_
    refine X.tald1 dX5_set_29 (by omega) (by omega) (pc' := 30) rfl ?_
    refine X.gen (fun x4 hx4 => ?_)
    refine X.callS (rm := rm_X5_isWithin) (As := [vi k, vi x3, vi x4]) (st := []) dX5_set_30 ck_X5_43 rfl rfl ⟨Nat.le_of_ble_eq_true rfl, Nat.le_of_ble_eq_true rfl⟩ (Nat.le_of_ble_eq_true rfl) (Nat.le_of_ble_eq_true rfl) (Nat.le_of_ble_eq_true rfl) (pc' := 33) rfl (k_X5_isWithin ⟨by omega, by omega⟩ ⟨by omega, by omega⟩ ⟨by omega, by omega⟩) (fun q5 hq5 eq5 => ?_) (fun _ _ x1 => x1.elim)
    obtain ⟨rfl, r6, rfl, hr6⟩ := eq5
    refine X.callS (rm := rm_X5_require) (As := [vi r6]) (st := []) dX5_set_33 ck_X5_47 rfl rfl ⟨Nat.le_of_ble_eq_true rfl, Nat.le_of_ble_eq_true rfl⟩ (Nat.le_of_ble_eq_true rfl) (Nat.le_of_ble_eq_true rfl) (Nat.le_of_ble_eq_true rfl) (pc' := 36) rfl (k_X5_require (by omega)) (fun q7 hq7 eq7 => ?_) (fun E1 z1 x1 => ?_)
    rotate_left
    · subst hPX
      obtain ⟨e, hh, n, hn, rfl⟩ := x1
      first | (exfalso; omega) | exact ⟨⟨n, hn, rfl⟩, Or.inr (Or.inl ⟨by (try unfold stOK); omega, by (try unfold stOK); omega, e⟩)⟩
    obtain ⟨rfl, rfl, hrq⟩ := eq7
    refine X.aload_n (i := 0) rfl rfl dX5_set_36 (pc' := 37) rfl ?_
    refine X.getR fk_X5_28 xcl_5 dX5_set_37 hE.1.1 hE.1.2.2.2.1 (pc' := 40) rfl ?_
    refine X.aload_n (i := 0) rfl rfl dX5_set_40 (pc' := 41) rfl ?_
    refine X.getR fk_X5_10 xcl_5 dX5_set_41 hE.1.1 hE.1.2.1 (pc' := 44) rfl ?_
    refine X.callV (ci := 2) (a := (x + 31)) (rm := rm_X2_save) (As := [rf ((x + 1))]) (st := []) dX5_set_44 ck_X5_62 rfl (by decide) hE.1.2.2.2.2.2.2.2.1.1 rfl rfl ⟨Nat.le_of_ble_eq_true rfl, Nat.le_of_ble_eq_true rfl⟩ (Nat.le_of_ble_eq_true rfl) (Nat.le_of_ble_eq_true rfl) (Nat.le_of_ble_eq_true rfl) (pc' := 47) rfl (k_X2_save hE.2.2.1 hE.2.1 (by omega) (by omega) (by omega)) (fun q8 hq8 eq8 => ?_) (fun _ _ x1 => x1.elim)
    obtain ⟨rfl, hHs, hFs⟩ := eq8
    have hE2 := hE.save hHs hFs
    have hR2 : RC hq8 (x + 1) (lA L) := hE2.1.2.1
    refine X.aload_n (i := 0) rfl rfl dX5_set_47 (pc' := 48) rfl ?_
    refine X.getR fk_X5_10 xcl_5 dX5_set_48 hE2.1.1.1 hE2.1.1.2.1 (pc' := 51) rfl ?_
    refine X.getR fk_X5_97 xcl_0 dX5_set_51 hR2.1.1.1 hR2.1.1.2.2.1.1 (pc' := 54) rfl ?_
    refine X.iload_n (i := 1) rfl rfl dX5_set_54 (pc' := 55) rfl ?_
    refine X.iald (x := aSt (lA L) s) dX5_set_55 hR2.1.1.2.2.1.2 (by omega) (by omega) ⟨by omega, by omega⟩ (hR2.1.2.2.2.2.2.1 s (by omega) (by omega)) (pc' := 56) rfl (fun r9 => ?_)
    obtain ⟨r9a, r9b⟩ := r9
    refine X.gen (fun had hhad => ?_)
    refine X.istore_n (i := 3) (ls' := [some (rf x), some (vi s), some (vi k), some (vi had)]) (hi := rfl) (hd := dX5_set_56) (by decide) rfl rfl (pc' := 57) rfl ?_
    refine X.aload_n (i := 0) rfl rfl dX5_set_57 (pc' := 58) rfl ?_
    refine X.getR fk_X5_10 xcl_5 dX5_set_58 hE2.1.1.1 hE2.1.1.2.1 (pc' := 61) rfl ?_
    refine X.getR fk_X5_97 xcl_0 dX5_set_61 hR2.1.1.1 hR2.1.1.2.2.1.1 (pc' := 64) rfl ?_
    refine X.iload_n (i := 1) rfl rfl dX5_set_64 (pc' := 65) rfl ?_
    refine X.iload_n (i := 2) rfl rfl dX5_set_65 (pc' := 66) rfl ?_
    refine X.iast dX5_set_66 hR2.1.1.2.2.1.2 (by omega) (by omega) ⟨by omega, by omega⟩ ⟨by omega, by omega⟩ (pc' := 67) rfl ?_
    refine X.genH (fun h10 hh10 => ?_)
    have wh10 : ∀ (w0 : Nat) (w1 : Int), mI h10 w0 w1 = if w0 = ((x + 1) + 2) ∧ w1 = s then k else mI hq8 w0 w1 := fun _ _ => by rw [hh10]; rfl
    have S11 : ElS h10 x := by rw [hh10]; exact hE2.1.1
    have S12 : ChS h10 ((x + 1)) := by rw [hh10]; exact hR2.1.1
    refine X.iload_n (i := 3) rfl rfl dX5_set_67 (pc' := 68) rfl ?_
    refine X.iret dX5_set_68 (Or.inl rfl) (Nat.le_of_ble_eq_true rfl) (Nat.le_of_ble_eq_true rfl) ?_
    subst hPR
    have hst : stOK s k := by unfold stOK; omega
    have hE3 := hE2.1.now (A := aSSt (lA L) s k) (RC_st hR2 hst (by rw [hh10]; rfl) (by rw [hh10]; rfl) wh10) (by rw [hh10]; exact Fr.w Fr.rf ⟨by omega, by omega⟩) hE.2.2.2.2.2.1.1
    exact ⟨⟨by omega, hst⟩, by rw [hhad], hE3.1, hE2.2.tr hE3.2⟩
  · refine X.throw tk_86_88_90 dX5_set_9 dX5_set_12 dX5_set_13 dX5_set_15 dX5_set_18 ⟨Nat.le_of_ble_eq_true rfl, Nat.le_of_ble_eq_true rfl⟩ (Nat.le_of_ble_eq_true rfl) (Nat.le_of_ble_eq_true rfl) (fun n1 hn1 => ?_)
    subst hPX
    exact ⟨⟨n1, hn1, rfl⟩, Or.inl ⟨by (try unfold stOK); omega, rfl⟩⟩
