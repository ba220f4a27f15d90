abbrev rm_X5_requireSeat0 : Room := { frames := 6, cells := 0, slots := 0, locals := 82 }
abbrev rm_X5_require0 : Room := { frames := 6, cells := 0, slots := 0, locals := 82 }
abbrev rm_X5_said0 : Room := { frames := 7, cells := 0, slots := 0, locals := 102 }
abbrev rm_X5_comes0 : Room := { frames := 7, cells := 0, slots := 0, locals := 102 }
abbrev rm_X5_heard0 : Room := { frames := 7, cells := 0, slots := 0, locals := 102 }
abbrev rm_X5_speaker0 : Room := { frames := 7, cells := 0, slots := 0, locals := 102 }
abbrev rm_X5_message0 : Room := { frames := 7, cells := 0, slots := 0, locals := 102 }
abbrev rm_X5_count0 : Room := { frames := 7, cells := 0, slots := 0, locals := 139 }
abbrev rm_X5_whyNot0 : Room := { frames := 7, cells := 0, slots := 0, locals := 102 }
abbrev rm_X5_heardIn0 : Room := { frames := 7, cells := 0, slots := 0, locals := 102 }
abbrev rm_X5_ifSilent0 : Room := { frames := 7, cells := 0, slots := 0, locals := 102 }
set_option maxHeartbeats 4000000 in
set_option maxRecDepth 100000 in
theorem k_X5_requireSeat0 {Ω : xO} {h : xM} {s : Int} (hs : inR s) (hv : 0 ≤ s ∧ s < 6) : xCt Ω yX5_requireSeat cX5_requireSeat 1 none rm_X5_requireSeat0 [vi s] h (fun q h' => h = h' ∧ q = none ∧ (0 ≤ s ∧ s < 6)) xNo := by
  refine xCt_of (ini := false) (by decide +kernel) (Nat.le_of_ble_eq_true rfl) (fun q => absurd q (by decide)) ?_
  generalize hPR : (fun q h' => h = h' ∧ q = none ∧ (0 ≤ s ∧ s < 6) : Option xV → xM → Prop) = PR
  have K0 : X Ω RX5 cX5_requireSeat 1 none false rm_X5_requireSeat0 PR xNo 0 0 0 [some (vi s)] [] h := ?_
  exact K0
  obtain ⟨hs1, hs2⟩ := hs
  refine X.iload_n (i := 0) rfl rfl dX5_requireSeat_0 (pc' := 1) rfl ?_
  refine X.iconst dX5_requireSeat_1 (pc' := 2) rfl ?_
  refine X.iconst dX5_requireSeat_2 (pc' := 3) rfl ?_
  refine X.callS (rm := rm_X5_isWithin) (As := [vi s, vi 0, vi 5]) (st := []) dX5_requireSeat_3 ck_X5_43 rfl rfl ⟨Nat.le_of_ble_eq_true rfl, Nat.le_of_ble_eq_true rfl⟩ (Nat.le_of_ble_eq_true rfl) (Nat.le_of_ble_eq_true rfl) (Nat.le_of_ble_eq_true rfl) (pc' := 6) rfl (k_X5_isWithin ⟨by omega, by omega⟩ ⟨by omega, by omega⟩ ⟨by omega, by omega⟩) (fun q1 hq1 eq1 => ?_) (fun _ _ x1 => x1.elim)
  obtain ⟨rfl, r2, rfl, hr2⟩ := eq1
  refine X.if_ne (tgt := 19) dX5_requireSeat_6 ⟨by omega, by omega⟩ (by decide) (pc' := 9) rfl (fun c6 => ?_) (fun c6 => by exfalso; omega)
  refine X.vret dX5_requireSeat_19 rfl (Nat.le_of_ble_eq_true rfl) (Nat.le_of_ble_eq_true rfl) ?_
  subst hPR
  exact ⟨rfl, rfl, by omega⟩
set_option maxHeartbeats 4000000 in
set_option maxRecDepth 100000 in
theorem k_X5_require0 {Ω : xO} {h : xM} {s : Int} (hs : s = 0 ∨ s = 1) (hv : s = 1) : xCt Ω yX5_require cX5_require 1 none rm_X5_require0 [vi s] h (fun q h' => h = h' ∧ q = none ∧ s = 1) xNo := by
  refine xCt_of (ini := false) (by decide +kernel) (Nat.le_of_ble_eq_true rfl) (fun q => absurd q (by decide)) ?_
  generalize hPR : (fun q h' => h = h' ∧ q = none ∧ s = 1 : Option xV → xM → Prop) = PR
  have K0 : X Ω RX5 cX5_require 1 none false rm_X5_require0 PR xNo 0 0 0 [some (vi s)] [] h := ?_
  exact K0
  refine X.iload_n (i := 0) rfl rfl dX5_require_0 (pc' := 1) rfl ?_
  refine X.if_ne (tgt := 14) dX5_require_1 ⟨by omega, by omega⟩ (by decide) (pc' := 4) rfl (fun c1 => ?_) (fun c1 => by exfalso; omega)
  refine X.vret dX5_require_14 rfl (Nat.le_of_ble_eq_true rfl) (Nat.le_of_ble_eq_true rfl) ?_
  subst hPR
  exact ⟨rfl, rfl, by omega⟩
set_option maxHeartbeats 4000000 in
set_option maxRecDepth 100000 in
theorem k_X5_said0 {Ω : xO} {h : xM} {x lo : Nat} {L : lS} {n w : Int} (hE : EL h x lo L) (irn : inR n) (irw : inR w) (hv : 0 ≤ n ∧ 0 ≤ w ∧ w ≤ 5) : xCt Ω yX5_said cX5_said 3 (some .int) rm_X5_said0 [rf x, vi n, vi w] h (fun q h' => h = h' ∧ ((0 ≤ n ∧ (0 ≤ w ∧ w ≤ 5)) ∧ (True)) ∧ q = some (vi (if n < aW (lA L) then oWd (lA L) n w else -1))) xNo := by
  refine xCt_of (ini := false) (by decide +kernel) (Nat.le_of_ble_eq_true rfl) (fun q => absurd q (by decide)) ?_
  generalize hPR : (fun q h' => h = h' ∧ ((0 ≤ n ∧ (0 ≤ w ∧ w ≤ 5)) ∧ (True)) ∧ q = some (vi (if n < aW (lA L) then oWd (lA L) n w else -1)) : Option xV → xM → Prop) = PR
  have K0 : X Ω RX5 cX5_said 3 (some .int) false rm_X5_said0 PR xNo 0 0 0 [some (rf x), some (vi n), some (vi w)] [] h := ?_
  exact K0
  have okA : aOK (lA L) := hE.2.1.1.2.1
  obtain ⟨okB, okN, okWl, okS, okW, okM, okC, okH⟩ := id hE.2.1.1.2.1
  have hlo := hE.2.2.2.2.2.2
  have hz6 := hE.2.2.1.2.2.1
  have hnB : mI h (x + 1) 0 = aB (lA L) := hE.2.1.1.2.2.1
  have hnW : mI h (x + 1) 1 = aW (lA L) := hE.2.1.1.2.2.2.1
  have hHz : mI h (x + 31) 0 = lZ L := hE.2.2.1.2.1
  have hTn : mI h (x + 33) 0 = lTn L := hE.2.2.2.2.1.1
  have hTr := hE.2.2.2.2.1.2.1
  obtain ⟨irn1, irn2⟩ := irn
  obtain ⟨irw1, irw2⟩ := irw
  refine X.iload_n (i := 1) rfl rfl dX5_said_0 (pc' := 1) rfl ?_
  refine X.if_lt (tgt := 17) dX5_said_1 ⟨by omega, by omega⟩ (by decide) (pc' := 4) rfl (fun c1 => ?_) (fun c1 => ?_)
  · refine X.iconst dX5_said_17 (pc' := 18) rfl ?_
    refine X.callS (rm := rm_X5_require0) (As := [vi 0]) (st := []) dX5_said_18 ck_X5_47 rfl rfl ⟨Nat.le_of_ble_eq_true rfl, Nat.le_of_ble_eq_true rfl⟩ (Nat.le_of_ble_eq_true rfl) (Nat.le_of_ble_eq_true rfl) (Nat.le_of_ble_eq_true rfl) (pc' := 21) rfl (k_X5_require0 (by omega) (by omega)) (fun q1 hq1 eq1 => ?_) (fun _ _ x1 => x1.elim)
    obtain ⟨rfl, rfl, hrq⟩ := eq1
    exact absurd hrq (by decide)
  · refine X.iload_n (i := 2) rfl rfl dX5_said_4 (pc' := 5) rfl ?_
    refine X.iconst dX5_said_5 (pc' := 6) rfl ?_
    refine X.iconst dX5_said_6 (pc' := 7) rfl ?_
    refine X.callS (rm := rm_X5_isWithin) (As := [vi w, vi 0, vi 5]) (st := []) dX5_said_7 ck_X5_43 rfl rfl ⟨Nat.le_of_ble_eq_true rfl, Nat.le_of_ble_eq_true rfl⟩ (Nat.le_of_ble_eq_true rfl) (Nat.le_of_ble_eq_true rfl) (Nat.le_of_ble_eq_true rfl) (pc' := 10) rfl (k_X5_isWithin ⟨by omega, by omega⟩ ⟨by omega, by omega⟩ ⟨by omega, by omega⟩) (fun q2 hq2 eq2 => ?_) (fun _ _ x1 => x1.elim)
    obtain ⟨rfl, r3, rfl, hr3⟩ := eq2
    refine X.if_eq (tgt := 17) dX5_said_10 ⟨by omega, by omega⟩ (by decide) (pc' := 13) rfl (fun c10 => ?_) (fun c10 => ?_)
    · refine X.iconst dX5_said_17 (pc' := 18) rfl ?_
      refine X.callS (rm := rm_X5_require0) (As := [vi 0]) (st := []) dX5_said_18 ck_X5_47 rfl rfl ⟨Nat.le_of_ble_eq_true rfl, Nat.le_of_ble_eq_true rfl⟩ (Nat.le_of_ble_eq_true rfl) (Nat.le_of_ble_eq_true rfl) (Nat.le_of_ble_eq_true rfl) (pc' := 21) rfl (k_X5_require0 (by omega) (by omega)) (fun q4 hq4 eq4 => ?_) (fun _ _ x1 => x1.elim)
      obtain ⟨rfl, rfl, hrq⟩ := eq4
      exact absurd hrq (by decide)
    · refine X.iconst dX5_said_13 (pc' := 14) rfl ?_
      refine X.goto (tgt := 18) dX5_said_14 (by decide) ?_
      refine X.callS (rm := rm_X5_require0) (As := [vi 1]) (st := []) dX5_said_18 ck_X5_47 rfl rfl ⟨Nat.le_of_ble_eq_true rfl, Nat.le_of_ble_eq_true rfl⟩ (Nat.le_of_ble_eq_true rfl) (Nat.le_of_ble_eq_true rfl) (Nat.le_of_ble_eq_true rfl) (pc' := 21) rfl (k_X5_require0 (by omega) (by omega)) (fun q5 hq5 eq5 => ?_) (fun _ _ x1 => x1.elim)
      obtain ⟨rfl, rfl, hrq⟩ := eq5
      refine X.iload_n (i := 1) rfl rfl dX5_said_21 (pc' := 22) rfl ?_
      refine X.aload_n (i := 0) rfl rfl dX5_said_22 (pc' := 23) rfl ?_
      refine X.getR fk_X5_10 xcl_5 dX5_said_23 hE.1.1 hE.1.2.1 (pc' := 26) rfl ?_
      refine X.getI (x := aW (lA L)) fk_X5_116 xcl_0 dX5_said_26 (by decide) hE.2.1.1.1.1 hE.2.1.1.2.2.2.1 (pc' := 29) rfl (fun r6 => ?_)
      obtain ⟨r6a, r6b⟩ := r6
      refine X.icmp_ge (tgt := 44) dX5_said_29 ⟨by omega, by omega⟩ ⟨by omega, by omega⟩ (by decide) (pc' := 32) rfl (fun c29 => ?_) (fun c29 => ?_)
      · refine X.iconst dX5_said_44 (pc' := 45) rfl ?_
        refine X.iret dX5_said_45 (Or.inl rfl) (Nat.le_of_ble_eq_true rfl) (Nat.le_of_ble_eq_true rfl) ?_
        subst hPR
        exact ⟨rfl, ⟨by omega, by first | trivial | omega⟩, by rw [if_neg (by omega)]⟩
      · refine X.aload_n (i := 0) rfl rfl dX5_said_32 (pc' := 33) rfl ?_
        refine X.getR fk_X5_21 xcl_5 dX5_said_33 hE.1.1 hE.1.2.2.1 (pc' := 36) rfl ?_
        refine X.iload_n (i := 1) rfl rfl dX5_said_36 (pc' := 37) rfl ?_
        refine X.iload_n (i := 2) rfl rfl dX5_said_37 (pc' := 38) rfl ?_
        refine X.callV (ci := 3) (a := (x + 30)) (rm := rm_X3_ofWord) (As := [vi n, vi w]) (st := []) dX5_said_38 ck_X5_142 rfl (by decide) hE.1.2.2.2.2.2.2.1.1 rfl rfl ⟨Nat.le_of_ble_eq_true rfl, Nat.le_of_ble_eq_true rfl⟩ (Nat.le_of_ble_eq_true rfl) (Nat.le_of_ble_eq_true rfl) (Nat.le_of_ble_eq_true rfl) (pc' := 41) rfl (k_X3_ofWord hE.1.2.2.2.2.2.2.1 hE.2.1 (by omega) (by omega)) (fun q7 hq7 eq7 => ?_) (fun _ _ x1 => x1.elim)
        obtain ⟨rfl, r8, rfl, hr8⟩ := eq7
        refine X.goto (tgt := 45) dX5_said_41 (by decide) ?_
        refine X.iret dX5_said_45 (Or.inl rfl) (Nat.le_of_ble_eq_true rfl) (Nat.le_of_ble_eq_true rfl) ?_
        subst hPR
        exact ⟨rfl, ⟨by omega, by first | trivial | omega⟩, by rw [if_pos (by omega), hr8]⟩
set_option maxHeartbeats 4000000 in
set_option maxRecDepth 100000 in
theorem k_X5_comes0 {Ω : xO} {h : xM} {x lo : Nat} {L : lS} {n s : Int} (hE : EL h x lo L) (irn : inR n) (irs : inR s) (hv : (0 ≤ s ∧ s < 6) ∧ 0 ≤ n) : xCt Ω yX5_comes cX5_comes 3 (some .int) rm_X5_comes0 [rf x, vi n, vi s] h (fun q h' => h = h' ∧ (((0 ≤ s ∧ s < 6)) ∧ (0 ≤ n)) ∧ q = some (vi (if n < aW (lA L) then aCo (lA L) s n else -1))) xNo := by
  refine xCt_of (ini := false) (by decide +kernel) (Nat.le_of_ble_eq_true rfl) (fun q => absurd q (by decide)) ?_
  generalize hPR : (fun q h' => h = h' ∧ (((0 ≤ s ∧ s < 6)) ∧ (0 ≤ n)) ∧ q = some (vi (if n < aW (lA L) then aCo (lA L) s n else -1)) : Option xV → xM → Prop) = PR
  have K0 : X Ω RX5 cX5_comes 3 (some .int) false rm_X5_comes0 PR xNo 0 0 0 [some (rf x), some (vi n), some (vi s)] [] h := ?_
  exact K0
  have okA : aOK (lA L) := hE.2.1.1.2.1
  obtain ⟨okB, okN, okWl, okS, okW, okM, okC, okH⟩ := id hE.2.1.1.2.1
  have hlo := hE.2.2.2.2.2.2
  have hz6 := hE.2.2.1.2.2.1
  have hnB : mI h (x + 1) 0 = aB (lA L) := hE.2.1.1.2.2.1
  have hnW : mI h (x + 1) 1 = aW (lA L) := hE.2.1.1.2.2.2.1
  have hHz : mI h (x + 31) 0 = lZ L := hE.2.2.1.2.1
  have hTn : mI h (x + 33) 0 = lTn L := hE.2.2.2.2.1.1
  have hTr := hE.2.2.2.2.1.2.1
  obtain ⟨irn1, irn2⟩ := irn
  obtain ⟨irs1, irs2⟩ := irs
  refine X.iload_n (i := 2) rfl rfl dX5_comes_0 (pc' := 1) rfl ?_
  refine X.callS (rm := rm_X5_requireSeat0) (As := [vi s]) (st := []) dX5_comes_1 ck_X5_39 rfl rfl ⟨Nat.le_of_ble_eq_true rfl, Nat.le_of_ble_eq_true rfl⟩ (Nat.le_of_ble_eq_true rfl) (Nat.le_of_ble_eq_true rfl) (Nat.le_of_ble_eq_true rfl) (pc' := 4) rfl (k_X5_requireSeat0 ⟨by omega, by omega⟩ (by omega)) (fun q1 hq1 eq1 => ?_) (fun _ _ x1 => x1.elim)
  obtain ⟨rfl, rfl, hse⟩ := eq1
  refine X.iload_n (i := 1) rfl rfl dX5_comes_4 (pc' := 5) rfl ?_
  refine X.if_lt (tgt := 12) dX5_comes_5 ⟨by omega, by omega⟩ (by decide) (pc' := 8) rfl (fun c5 => ?_) (fun c5 => ?_)
  · refine X.iconst dX5_comes_12 (pc' := 13) rfl ?_
    refine X.callS (rm := rm_X5_require0) (As := [vi 0]) (st := []) dX5_comes_13 ck_X5_47 rfl rfl ⟨Nat.le_of_ble_eq_true rfl, Nat.le_of_ble_eq_true rfl⟩ (Nat.le_of_ble_eq_true rfl) (Nat.le_of_ble_eq_true rfl) (Nat.le_of_ble_eq_true rfl) (pc' := 16) rfl (k_X5_require0 (by omega) (by omega)) (fun q2 hq2 eq2 => ?_) (fun _ _ x1 => x1.elim)
    obtain ⟨rfl, rfl, hrq⟩ := eq2
    exact absurd hrq (by decide)
  · refine X.iconst dX5_comes_8 (pc' := 9) rfl ?_
    refine X.goto (tgt := 13) dX5_comes_9 (by decide) ?_
    refine X.callS (rm := rm_X5_require0) (As := [vi 1]) (st := []) dX5_comes_13 ck_X5_47 rfl rfl ⟨Nat.le_of_ble_eq_true rfl, Nat.le_of_ble_eq_true rfl⟩ (Nat.le_of_ble_eq_true rfl) (Nat.le_of_ble_eq_true rfl) (Nat.le_of_ble_eq_true rfl) (pc' := 16) rfl (k_X5_require0 (by omega) (by omega)) (fun q3 hq3 eq3 => ?_) (fun _ _ x1 => x1.elim)
    obtain ⟨rfl, rfl, hrq⟩ := eq3
    refine X.iload_n (i := 1) rfl rfl dX5_comes_16 (pc' := 17) rfl ?_
    refine X.aload_n (i := 0) rfl rfl dX5_comes_17 (pc' := 18) rfl ?_
    refine X.getR fk_X5_10 xcl_5 dX5_comes_18 hE.1.1 hE.1.2.1 (pc' := 21) rfl ?_
    refine X.getI (x := aW (lA L)) fk_X5_116 xcl_0 dX5_comes_21 (by decide) hE.2.1.1.1.1 hE.2.1.1.2.2.2.1 (pc' := 24) rfl (fun r4 => ?_)
    obtain ⟨r4a, r4b⟩ := r4
    refine X.icmp_ge (tgt := 41) dX5_comes_24 ⟨by omega, by omega⟩ ⟨by omega, by omega⟩ (by decide) (pc' := 27) rfl (fun c24 => ?_) (fun c24 => ?_)
    · refine X.iconst dX5_comes_41 (pc' := 42) rfl ?_
      refine X.iret dX5_comes_42 (Or.inl rfl) (Nat.le_of_ble_eq_true rfl) (Nat.le_of_ble_eq_true rfl) ?_
      subst hPR
      exact ⟨rfl, ⟨by omega, by first | trivial | omega⟩, by rw [if_neg (by omega)]⟩
    · refine X.aload_n (i := 0) rfl rfl dX5_comes_27 (pc' := 28) rfl ?_
      refine X.getR fk_X5_10 xcl_5 dX5_comes_28 hE.1.1 hE.1.2.1 (pc' := 31) rfl ?_
      refine X.getR fk_X5_146 xcl_0 dX5_comes_31 hE.2.1.1.1.1 hE.2.1.1.1.2.2.2.2.2.2.2.1.1 (pc' := 34) rfl ?_
      refine X.iload_n (i := 2) rfl rfl dX5_comes_34 (pc' := 35) rfl ?_
      refine X.aald13 dX5_comes_35 hE.2.1.1.1.2.2.2.2.2.2.2.1.2 (by omega) (by omega) ⟨by omega, by omega⟩ (hE.2.1.1.1.2.2.2.2.2.2.2.2.2.2.2.1 (s) (by omega) (by omega)).1 (pc' := 36) rfl ?_
      refine X.iload_n (i := 1) rfl rfl dX5_comes_36 (pc' := 37) rfl ?_
      refine X.iald (x := aCo (lA L) s n) dX5_comes_37 (hE.2.1.1.1.2.2.2.2.2.2.2.2.2.2.2.1 (s) (by omega) (by omega)).2 (by omega) (by omega) ⟨by omega, by omega⟩ (hE.2.1.1.2.2.2.2.2.2.2.2.2.2 s n (by omega) (by omega) (by omega) (by omega)) (pc' := 38) rfl (fun r5 => ?_)
      obtain ⟨r5a, r5b⟩ := r5
      have r5c := hE.2.1.1.2.1.2.2.2.2.2.2.1 s n (by omega) (by omega) (by omega) (by omega)
      refine X.goto (tgt := 42) dX5_comes_38 (by decide) ?_
      refine X.iret dX5_comes_42 (Or.inl rfl) (Nat.le_of_ble_eq_true rfl) (Nat.le_of_ble_eq_true rfl) ?_
      subst hPR
      exact ⟨rfl, ⟨by omega, by first | trivial | omega⟩, by rw [if_pos (by omega)]⟩
set_option maxHeartbeats 4000000 in
set_option maxRecDepth 100000 in
theorem k_X5_heard0 {Ω : xO} {h : xM} {x lo : Nat} {L : lS} {s k w : Int} (hE : EL h x lo L) (irs : inR s) (irk : inR k) (irw : inR w) (hv : (0 ≤ s ∧ s < 6) ∧ 0 ≤ k ∧ 0 ≤ w ∧ w ≤ 2) : xCt Ω yX5_heard cX5_heard 4 (some .int) rm_X5_heard0 [rf x, vi s, vi k, vi w] h (fun q h' => h = h' ∧ (((0 ≤ s ∧ s < 6)) ∧ (0 ≤ k ∧ (0 ≤ w ∧ w ≤ 2))) ∧ q = some (vi (if k < aB (lA L) then oBt (lA L) s k w else -1))) xNo := by
  refine xCt_of (ini := false) (by decide +kernel) (Nat.le_of_ble_eq_true rfl) (fun q => absurd q (by decide)) ?_
  generalize hPR : (fun q h' => h = h' ∧ (((0 ≤ s ∧ s < 6)) ∧ (0 ≤ k ∧ (0 ≤ w ∧ w ≤ 2))) ∧ q = some (vi (if k < aB (lA L) then oBt (lA L) s k w else -1)) : Option xV → xM → Prop) = PR
  have K0 : X Ω RX5 cX5_heard 4 (some .int) false rm_X5_heard0 PR xNo 0 0 0 [some (rf x), some (vi s), some (vi k), some (vi w)] [] h := ?_
  exact K0
  have okA : aOK (lA L) := hE.2.1.1.2.1
  obtain ⟨okB, okN, okWl, okS, okW, okM, okC, okH⟩ := id hE.2.1.1.2.1
  have hlo := hE.2.2.2.2.2.2
  have hz6 := hE.2.2.1.2.2.1
  have hnB : mI h (x + 1) 0 = aB (lA L) := hE.2.1.1.2.2.1
  have hnW : mI h (x + 1) 1 = aW (lA L) := hE.2.1.1.2.2.2.1
  have hHz : mI h (x + 31) 0 = lZ L := hE.2.2.1.2.1
  have hTn : mI h (x + 33) 0 = lTn L := hE.2.2.2.2.1.1
  have hTr := hE.2.2.2.2.1.2.1
  obtain ⟨irs1, irs2⟩ := irs
  obtain ⟨irk1, irk2⟩ := irk
  obtain ⟨irw1, irw2⟩ := irw
  refine X.iload_n (i := 1) rfl rfl dX5_heard_0 (pc' := 1) rfl ?_
  refine X.callS (rm := rm_X5_requireSeat0) (As := [vi s]) (st := []) dX5_heard_1 ck_X5_39 rfl rfl ⟨Nat.le_of_ble_eq_true rfl, Nat.le_of_ble_eq_true rfl⟩ (Nat.le_of_ble_eq_true rfl) (Nat.le_of_ble_eq_true rfl) (Nat.le_of_ble_eq_true rfl) (pc' := 4) rfl (k_X5_requireSeat0 ⟨by omega, by omega⟩ (by omega)) (fun q1 hq1 eq1 => ?_) (fun _ _ x1 => x1.elim)
  obtain ⟨rfl, rfl, hse⟩ := eq1
  refine X.iload_n (i := 2) rfl rfl dX5_heard_4 (pc' := 5) rfl ?_
  refine X.if_lt (tgt := 21) dX5_heard_5 ⟨by omega, by omega⟩ (by decide) (pc' := 8) rfl (fun c5 => ?_) (fun c5 => ?_)
  · refine X.iconst dX5_heard_21 (pc' := 22) rfl ?_
    refine X.callS (rm := rm_X5_require0) (As := [vi 0]) (st := []) dX5_heard_22 ck_X5_47 rfl rfl ⟨Nat.le_of_ble_eq_true rfl, Nat.le_of_ble_eq_true rfl⟩ (Nat.le_of_ble_eq_true rfl) (Nat.le_of_ble_eq_true rfl) (Nat.le_of_ble_eq_true rfl) (pc' := 25) rfl (k_X5_require0 (by omega) (by omega)) (fun q2 hq2 eq2 => ?_) (fun _ _ x1 => x1.elim)
    obtain ⟨rfl, rfl, hrq⟩ := eq2
    exact absurd hrq (by decide)
  · refine X.iload_n (i := 3) rfl rfl dX5_heard_8 (pc' := 9) rfl ?_
    refine X.iconst dX5_heard_9 (pc' := 10) rfl ?_
    refine X.iconst dX5_heard_10 (pc' := 11) rfl ?_
    refine X.callS (rm := rm_X5_isWithin) (As := [vi w, vi 0, vi 2]) (st := []) dX5_heard_11 ck_X5_43 rfl rfl ⟨Nat.le_of_ble_eq_true rfl, Nat.le_of_ble_eq_true rfl⟩ (Nat.le_of_ble_eq_true rfl) (Nat.le_of_ble_eq_true rfl) (Nat.le_of_ble_eq_true rfl) (pc' := 14) rfl (k_X5_isWithin ⟨by omega, by omega⟩ ⟨by omega, by omega⟩ ⟨by omega, by omega⟩) (fun q3 hq3 eq3 => ?_) (fun _ _ x1 => x1.elim)
    obtain ⟨rfl, r4, rfl, hr4⟩ := eq3
    refine X.if_eq (tgt := 21) dX5_heard_14 ⟨by omega, by omega⟩ (by decide) (pc' := 17) rfl (fun c14 => ?_) (fun c14 => ?_)
    · refine X.iconst dX5_heard_21 (pc' := 22) rfl ?_
      refine X.callS (rm := rm_X5_require0) (As := [vi 0]) (st := []) dX5_heard_22 ck_X5_47 rfl rfl ⟨Nat.le_of_ble_eq_true rfl, Nat.le_of_ble_eq_true rfl⟩ (Nat.le_of_ble_eq_true rfl) (Nat.le_of_ble_eq_true rfl) (Nat.le_of_ble_eq_true rfl) (pc' := 25) rfl (k_X5_require0 (by omega) (by omega)) (fun q5 hq5 eq5 => ?_) (fun _ _ x1 => x1.elim)
      obtain ⟨rfl, rfl, hrq⟩ := eq5
      exact absurd hrq (by decide)
    · refine X.iconst dX5_heard_17 (pc' := 18) rfl ?_
      refine X.goto (tgt := 22) dX5_heard_18 (by decide) ?_
      refine X.callS (rm := rm_X5_require0) (As := [vi 1]) (st := []) dX5_heard_22 ck_X5_47 rfl rfl ⟨Nat.le_of_ble_eq_true rfl, Nat.le_of_ble_eq_true rfl⟩ (Nat.le_of_ble_eq_true rfl) (Nat.le_of_ble_eq_true rfl) (Nat.le_of_ble_eq_true rfl) (pc' := 25) rfl (k_X5_require0 (by omega) (by omega)) (fun q6 hq6 eq6 => ?_) (fun _ _ x1 => x1.elim)
      obtain ⟨rfl, rfl, hrq⟩ := eq6
      refine X.iload_n (i := 2) rfl rfl dX5_heard_25 (pc' := 26) rfl ?_
      refine X.aload_n (i := 0) rfl rfl dX5_heard_26 (pc' := 27) rfl ?_
      refine X.getR fk_X5_10 xcl_5 dX5_heard_27 hE.1.1 hE.1.2.1 (pc' := 30) rfl ?_
      refine X.getI (x := aB (lA L)) fk_X5_78 xcl_0 dX5_heard_30 (by decide) hE.2.1.1.1.1 hE.2.1.1.2.2.1 (pc' := 33) rfl (fun r7 => ?_)
      obtain ⟨r7a, r7b⟩ := r7
      refine X.icmp_ge (tgt := 49) dX5_heard_33 ⟨by omega, by omega⟩ ⟨by omega, by omega⟩ (by decide) (pc' := 36) rfl (fun c33 => ?_) (fun c33 => ?_)
      · refine X.iconst dX5_heard_49 (pc' := 50) rfl ?_
        refine X.iret dX5_heard_50 (Or.inl rfl) (Nat.le_of_ble_eq_true rfl) (Nat.le_of_ble_eq_true rfl) ?_
        subst hPR
        exact ⟨rfl, ⟨by omega, by first | trivial | omega⟩, by rw [if_neg (by omega)]⟩
      · refine X.aload_n (i := 0) rfl rfl dX5_heard_36 (pc' := 37) rfl ?_
        refine X.getR fk_X5_21 xcl_5 dX5_heard_37 hE.1.1 hE.1.2.2.1 (pc' := 40) rfl ?_
        refine X.iload_n (i := 1) rfl rfl dX5_heard_40 (pc' := 41) rfl ?_
        refine X.iload_n (i := 2) rfl rfl dX5_heard_41 (pc' := 42) rfl ?_
        refine X.iload_n (i := 3) rfl rfl dX5_heard_42 (pc' := 43) rfl ?_
        refine X.callV (ci := 3) (a := (x + 30)) (rm := rm_X3_ofBeat) (As := [vi s, vi k, vi w]) (st := []) dX5_heard_43 ck_X5_150 rfl (by decide) hE.1.2.2.2.2.2.2.1.1 rfl rfl ⟨Nat.le_of_ble_eq_true rfl, Nat.le_of_ble_eq_true rfl⟩ (Nat.le_of_ble_eq_true rfl) (Nat.le_of_ble_eq_true rfl) (Nat.le_of_ble_eq_true rfl) (pc' := 46) rfl (k_X3_ofBeat hE.1.2.2.2.2.2.2.1 hE.2.1 (by omega) (by omega) (by omega)) (fun q8 hq8 eq8 => ?_) (fun _ _ x1 => x1.elim)
        obtain ⟨rfl, r9, rfl, hr9⟩ := eq8
        refine X.goto (tgt := 50) dX5_heard_46 (by decide) ?_
        refine X.iret dX5_heard_50 (Or.inl rfl) (Nat.le_of_ble_eq_true rfl) (Nat.le_of_ble_eq_true rfl) ?_
        subst hPR
        exact ⟨rfl, ⟨by omega, by first | trivial | omega⟩, by rw [if_pos (by omega), hr9]⟩
set_option maxHeartbeats 4000000 in
set_option maxRecDepth 100000 in
theorem k_X5_speaker0 {Ω : xO} {h : xM} {x lo : Nat} {L : lS} {s w : Int} (hE : EL h x lo L) (irs : inR s) (irw : inR w) (hv : (0 ≤ s ∧ s < 6) ∧ 0 ≤ w ∧ w ≤ 7) : xCt Ω yX5_speaker cX5_speaker 3 (some .int) rm_X5_speaker0 [rf x, vi s, vi w] h (fun q h' => h = h' ∧ (((0 ≤ s ∧ s < 6)) ∧ (0 ≤ w ∧ w ≤ 7)) ∧ q = some (vi (oSp (lA L) s w))) xNo := by
  refine xCt_of (ini := false) (by decide +kernel) (Nat.le_of_ble_eq_true rfl) (fun q => absurd q (by decide)) ?_
  generalize hPR : (fun q h' => h = h' ∧ (((0 ≤ s ∧ s < 6)) ∧ (0 ≤ w ∧ w ≤ 7)) ∧ q = some (vi (oSp (lA L) s w)) : Option xV → xM → Prop) = PR
  have K0 : X Ω RX5 cX5_speaker 3 (some .int) false rm_X5_speaker0 PR xNo 0 0 0 [some (rf x), some (vi s), some (vi w)] [] h := ?_
  exact K0
  have okA : aOK (lA L) := hE.2.1.1.2.1
  obtain ⟨okB, okN, okWl, okS, okW, okM, okC, okH⟩ := id hE.2.1.1.2.1
  have hlo := hE.2.2.2.2.2.2
  have hz6 := hE.2.2.1.2.2.1
  have hnB : mI h (x + 1) 0 = aB (lA L) := hE.2.1.1.2.2.1
  have hnW : mI h (x + 1) 1 = aW (lA L) := hE.2.1.1.2.2.2.1
  have hHz : mI h (x + 31) 0 = lZ L := hE.2.2.1.2.1
  have hTn : mI h (x + 33) 0 = lTn L := hE.2.2.2.2.1.1
  have hTr := hE.2.2.2.2.1.2.1
  obtain ⟨irs1, irs2⟩ := irs
  obtain ⟨irw1, irw2⟩ := irw
  refine X.iload_n (i := 1) rfl rfl dX5_speaker_0 (pc' := 1) rfl ?_
  refine X.callS (rm := rm_X5_requireSeat0) (As := [vi s]) (st := []) dX5_speaker_1 ck_X5_39 rfl rfl ⟨Nat.le_of_ble_eq_true rfl, Nat.le_of_ble_eq_true rfl⟩ (Nat.le_of_ble_eq_true rfl) (Nat.le_of_ble_eq_true rfl) (Nat.le_of_ble_eq_true rfl) (pc' := 4) rfl (k_X5_requireSeat0 ⟨by omega, by omega⟩ (by omega)) (fun q1 hq1 eq1 => ?_) (fun _ _ x1 => x1.elim)
  obtain ⟨rfl, rfl, hse⟩ := eq1
  refine X.iload_n (i := 2) rfl rfl dX5_speaker_4 (pc' := 5) rfl ?_
  refine X.iconst dX5_speaker_5 (pc' := 6) rfl ?_
  refine X.bipush (by decide +kernel) dX5_speaker_6 (pc' := 8) rfl ?_
  refine X.callS (rm := rm_X5_isWithin) (As := [vi w, vi 0, vi 7]) (st := []) dX5_speaker_8 ck_X5_43 rfl rfl ⟨Nat.le_of_ble_eq_true rfl, Nat.le_of_ble_eq_true rfl⟩ (Nat.le_of_ble_eq_true rfl) (Nat.le_of_ble_eq_true rfl) (Nat.le_of_ble_eq_true rfl) (pc' := 11) rfl (k_X5_isWithin ⟨by omega, by omega⟩ ⟨by omega, by omega⟩ ⟨by omega, by omega⟩) (fun q2 hq2 eq2 => ?_) (fun _ _ x1 => x1.elim)
  obtain ⟨rfl, r3, rfl, hr3⟩ := eq2
  refine X.callS (rm := rm_X5_require0) (As := [vi r3]) (st := []) dX5_speaker_11 ck_X5_47 rfl rfl ⟨Nat.le_of_ble_eq_true rfl, Nat.le_of_ble_eq_true rfl⟩ (Nat.le_of_ble_eq_true rfl) (Nat.le_of_ble_eq_true rfl) (Nat.le_of_ble_eq_true rfl) (pc' := 14) rfl (k_X5_require0 (by omega) (by omega)) (fun q4 hq4 eq4 => ?_) (fun _ _ x1 => x1.elim)
  obtain ⟨rfl, rfl, hrq⟩ := eq4
  refine X.aload_n (i := 0) rfl rfl dX5_speaker_14 (pc' := 15) rfl ?_
  refine X.getR fk_X5_21 xcl_5 dX5_speaker_15 hE.1.1 hE.1.2.2.1 (pc' := 18) rfl ?_
  refine X.iload_n (i := 1) rfl rfl dX5_speaker_18 (pc' := 19) rfl ?_
  refine X.iload_n (i := 2) rfl rfl dX5_speaker_19 (pc' := 20) rfl ?_
  refine X.callV (ci := 3) (a := (x + 30)) (rm := rm_X3_ofSpeaker) (As := [vi s, vi w]) (st := []) dX5_speaker_20 ck_X5_153 rfl (by decide) hE.1.2.2.2.2.2.2.1.1 rfl rfl ⟨Nat.le_of_ble_eq_true rfl, Nat.le_of_ble_eq_true rfl⟩ (Nat.le_of_ble_eq_true rfl) (Nat.le_of_ble_eq_true rfl) (Nat.le_of_ble_eq_true rfl) (pc' := 23) rfl (k_X3_ofSpeaker hE.1.2.2.2.2.2.2.1 hE.2.1 (by omega) (by omega)) (fun q5 hq5 eq5 => ?_) (fun _ _ x1 => x1.elim)
  obtain ⟨rfl, r6, rfl, hr6⟩ := eq5
  refine X.iret dX5_speaker_23 (Or.inl rfl) (Nat.le_of_ble_eq_true rfl) (Nat.le_of_ble_eq_true rfl) ?_
  subst hPR
  exact ⟨rfl, ⟨by omega, by first | trivial | omega⟩, by rw [hr6]⟩
set_option maxHeartbeats 4000000 in
set_option maxRecDepth 100000 in
theorem k_X5_message0 {Ω : xO} {h : xM} {x lo : Nat} {L : lS} {f m s : Int} (hE : EL h x lo L) (irf : inR f) (irm : inR m) (irs : inR s) (hv : ((0 ≤ f ∧ f < 6) ∧ (0 ≤ s ∧ s < 6)) ∧ 0 ≤ m ∧ m ≤ 9) : xCt Ω yX5_message cX5_message 4 (some .int) rm_X5_message0 [rf x, vi f, vi m, vi s] h (fun q h' => h = h' ∧ (((0 ≤ f ∧ f < 6) ∧ (0 ≤ s ∧ s < 6)) ∧ (0 ≤ m ∧ m ≤ 9)) ∧ q = some (vi (how (lA L) f m s))) xNo := by
  refine xCt_of (ini := false) (by decide +kernel) (Nat.le_of_ble_eq_true rfl) (fun q => absurd q (by decide)) ?_
  generalize hPR : (fun q h' => h = h' ∧ (((0 ≤ f ∧ f < 6) ∧ (0 ≤ s ∧ s < 6)) ∧ (0 ≤ m ∧ m ≤ 9)) ∧ q = some (vi (how (lA L) f m s)) : Option xV → xM → Prop) = PR
  have K0 : X Ω RX5 cX5_message 4 (some .int) false rm_X5_message0 PR xNo 0 0 0 [some (rf x), some (vi f), some (vi m), some (vi s)] [] h := ?_
  exact K0
  have okA : aOK (lA L) := hE.2.1.1.2.1
  obtain ⟨okB, okN, okWl, okS, okW, okM, okC, okH⟩ := id hE.2.1.1.2.1
  have hlo := hE.2.2.2.2.2.2
  have hz6 := hE.2.2.1.2.2.1
  have hnB : mI h (x + 1) 0 = aB (lA L) := hE.2.1.1.2.2.1
  have hnW : mI h (x + 1) 1 = aW (lA L) := hE.2.1.1.2.2.2.1
  have hHz : mI h (x + 31) 0 = lZ L := hE.2.2.1.2.1
  have hTn : mI h (x + 33) 0 = lTn L := hE.2.2.2.2.1.1
  have hTr := hE.2.2.2.2.1.2.1
  obtain ⟨irf1, irf2⟩ := irf
  obtain ⟨irm1, irm2⟩ := irm
  obtain ⟨irs1, irs2⟩ := irs
  refine X.iload_n (i := 1) rfl rfl dX5_message_0 (pc' := 1) rfl ?_
  refine X.callS (rm := rm_X5_requireSeat0) (As := [vi f]) (st := []) dX5_message_1 ck_X5_39 rfl rfl ⟨Nat.le_of_ble_eq_true rfl, Nat.le_of_ble_eq_true rfl⟩ (Nat.le_of_ble_eq_true rfl) (Nat.le_of_ble_eq_true rfl) (Nat.le_of_ble_eq_true rfl) (pc' := 4) rfl (k_X5_requireSeat0 ⟨by omega, by omega⟩ (by omega)) (fun q1 hq1 eq1 => ?_) (fun _ _ x1 => x1.elim)
  obtain ⟨rfl, rfl, hse⟩ := eq1
  refine X.iload_n (i := 3) rfl rfl dX5_message_4 (pc' := 5) rfl ?_
  refine X.callS (rm := rm_X5_requireSeat0) (As := [vi s]) (st := []) dX5_message_5 ck_X5_39 rfl rfl ⟨Nat.le_of_ble_eq_true rfl, Nat.le_of_ble_eq_true rfl⟩ (Nat.le_of_ble_eq_true rfl) (Nat.le_of_ble_eq_true rfl) (Nat.le_of_ble_eq_true rfl) (pc' := 8) rfl (k_X5_requireSeat0 ⟨by omega, by omega⟩ (by omega)) (fun q2 hq2 eq2 => ?_) (fun _ _ x1 => x1.elim)
  obtain ⟨rfl, rfl, hse2⟩ := eq2
  refine X.iload_n (i := 2) rfl rfl dX5_message_8 (pc' := 9) rfl ?_
  refine X.iconst dX5_message_9 (pc' := 10) rfl ?_
  refine X.bipush (by decide +kernel) dX5_message_10 (pc' := 12) rfl ?_
  refine X.callS (rm := rm_X5_isWithin) (As := [vi m, vi 0, vi 9]) (st := []) dX5_message_12 ck_X5_43 rfl rfl ⟨Nat.le_of_ble_eq_true rfl, Nat.le_of_ble_eq_true rfl⟩ (Nat.le_of_ble_eq_true rfl) (Nat.le_of_ble_eq_true rfl) (Nat.le_of_ble_eq_true rfl) (pc' := 15) rfl (k_X5_isWithin ⟨by omega, by omega⟩ ⟨by omega, by omega⟩ ⟨by omega, by omega⟩) (fun q3 hq3 eq3 => ?_) (fun _ _ x1 => x1.elim)
  obtain ⟨rfl, r4, rfl, hr4⟩ := eq3
  refine X.callS (rm := rm_X5_require0) (As := [vi r4]) (st := []) dX5_message_15 ck_X5_47 rfl rfl ⟨Nat.le_of_ble_eq_true rfl, Nat.le_of_ble_eq_true rfl⟩ (Nat.le_of_ble_eq_true rfl) (Nat.le_of_ble_eq_true rfl) (Nat.le_of_ble_eq_true rfl) (pc' := 18) rfl (k_X5_require0 (by omega) (by omega)) (fun q5 hq5 eq5 => ?_) (fun _ _ x1 => x1.elim)
  obtain ⟨rfl, rfl, hrq⟩ := eq5
  refine X.aload_n (i := 0) rfl rfl dX5_message_18 (pc' := 19) rfl ?_
  refine X.getR fk_X5_21 xcl_5 dX5_message_19 hE.1.1 hE.1.2.2.1 (pc' := 22) rfl ?_
  refine X.iload_n (i := 1) rfl rfl dX5_message_22 (pc' := 23) rfl ?_
  refine X.iload_n (i := 2) rfl rfl dX5_message_23 (pc' := 24) rfl ?_
  refine X.iload_n (i := 3) rfl rfl dX5_message_24 (pc' := 25) rfl ?_
  refine X.callV (ci := 3) (a := (x + 30)) (rm := rm_X3_hearingOf) (As := [vi f, vi m, vi s]) (st := []) dX5_message_25 ck_X5_156 rfl (by decide) hE.1.2.2.2.2.2.2.1.1 rfl rfl ⟨Nat.le_of_ble_eq_true rfl, Nat.le_of_ble_eq_true rfl⟩ (Nat.le_of_ble_eq_true rfl) (Nat.le_of_ble_eq_true rfl) (Nat.le_of_ble_eq_true rfl) (pc' := 28) rfl (k_X3_hearingOf hE.1.2.2.2.2.2.2.1 hE.2.1 (by omega) (by omega) (by omega)) (fun q6 hq6 eq6 => ?_) (fun _ _ x1 => x1.elim)
  obtain ⟨rfl, r7, rfl, hr7⟩ := eq6
  refine X.iret dX5_message_28 (Or.inl rfl) (Nat.le_of_ble_eq_true rfl) (Nat.le_of_ble_eq_true rfl) ?_
  subst hPR
  exact ⟨rfl, ⟨by omega, by first | trivial | omega⟩, by rw [hr7]⟩
set_option maxHeartbeats 4000000 in
set_option maxRecDepth 100000 in
theorem k_X5_count0 {Ω : xO} {h : xM} {x lo : Nat} {L : lS} {w : Int} (hE : EL h x lo L) (irw : inR w) (hv : 0 ≤ w ∧ w ≤ 9) : xCt Ω yX5_count cX5_count 2 (some .int) rm_X5_count0 [rf x, vi w] h (fun q h' => h = h' ∧ ((0 ≤ w ∧ w ≤ 9) ∧ (True)) ∧ q = some (vi (if w = 9 then lZ L else oAl (lA L) w))) xNo := by
  refine xCt_of (ini := false) (by decide +kernel) (Nat.le_of_ble_eq_true rfl) (fun q => absurd q (by decide)) ?_
  generalize hPR : (fun q h' => h = h' ∧ ((0 ≤ w ∧ w ≤ 9) ∧ (True)) ∧ q = some (vi (if w = 9 then lZ L else oAl (lA L) w)) : Option xV → xM → Prop) = PR
  have K0 : X Ω RX5 cX5_count 2 (some .int) false rm_X5_count0 PR xNo 0 0 0 [some (rf x), some (vi w)] [] h := ?_
  exact K0
  have okA : aOK (lA L) := hE.2.1.1.2.1
  obtain ⟨okB, okN, okWl, okS, okW, okM, okC, okH⟩ := id hE.2.1.1.2.1
  have hlo := hE.2.2.2.2.2.2
  have hz6 := hE.2.2.1.2.2.1
  have hnB : mI h (x + 1) 0 = aB (lA L) := hE.2.1.1.2.2.1
  have hnW : mI h (x + 1) 1 = aW (lA L) := hE.2.1.1.2.2.2.1
  have hHz : mI h (x + 31) 0 = lZ L := hE.2.2.1.2.1
  have hTn : mI h (x + 33) 0 = lTn L := hE.2.2.2.2.1.1
  have hTr := hE.2.2.2.2.1.2.1
  obtain ⟨irw1, irw2⟩ := irw
  refine X.iload_n (i := 1) rfl rfl dX5_count_0 (pc' := 1) rfl ?_
  refine X.iconst dX5_count_1 (pc' := 2) rfl ?_
  refine X.bipush (by decide +kernel) dX5_count_2 (pc' := 4) rfl ?_
  refine X.callS (rm := rm_X5_isWithin) (As := [vi w, vi 0, vi 9]) (st := []) dX5_count_4 ck_X5_43 rfl rfl ⟨Nat.le_of_ble_eq_true rfl, Nat.le_of_ble_eq_true rfl⟩ (Nat.le_of_ble_eq_true rfl) (Nat.le_of_ble_eq_true rfl) (Nat.le_of_ble_eq_true rfl) (pc' := 7) rfl (k_X5_isWithin ⟨by omega, by omega⟩ ⟨by omega, by omega⟩ ⟨by omega, by omega⟩) (fun q1 hq1 eq1 => ?_) (fun _ _ x1 => x1.elim)
  obtain ⟨rfl, r2, rfl, hr2⟩ := eq1
  refine X.callS (rm := rm_X5_require0) (As := [vi r2]) (st := []) dX5_count_7 ck_X5_47 rfl rfl ⟨Nat.le_of_ble_eq_true rfl, Nat.le_of_ble_eq_true rfl⟩ (Nat.le_of_ble_eq_true rfl) (Nat.le_of_ble_eq_true rfl) (Nat.le_of_ble_eq_true rfl) (pc' := 10) rfl (k_X5_require0 (by omega) (by omega)) (fun q3 hq3 eq3 => ?_) (fun _ _ x1 => x1.elim)
  obtain ⟨rfl, rfl, hrq⟩ := eq3
  refine X.aload_n (i := 0) rfl rfl dX5_count_10 (pc' := 11) rfl ?_
  refine X.iload_n (i := 1) rfl rfl dX5_count_11 (pc' := 12) rfl ?_
  refine X.callV (ci := 5) (a := x) (rm := rm_X5_total) (As := [vi w]) (st := []) dX5_count_12 ck_X5_159 rfl (by decide) hE.1.1 rfl rfl ⟨Nat.le_of_ble_eq_true rfl, Nat.le_of_ble_eq_true rfl⟩ (Nat.le_of_ble_eq_true rfl) (Nat.le_of_ble_eq_true rfl) (Nat.le_of_ble_eq_true rfl) (pc' := 15) rfl (k_X5_total hE ⟨by omega, by omega⟩ (by omega)) (fun q4 hq4 eq4 => ?_) (fun _ _ x1 => x1.elim)
  obtain ⟨rfl, rfl⟩ := eq4
  refine X.iret dX5_count_15 (Or.inl rfl) (Nat.le_of_ble_eq_true rfl) (Nat.le_of_ble_eq_true rfl) ?_
  subst hPR
  exact ⟨rfl, ⟨by omega, by first | trivial | omega⟩, rfl⟩
set_option maxHeartbeats 4000000 in
set_option maxRecDepth 100000 in
theorem k_X5_whyNot0 {Ω : xO} {h : xM} {x lo : Nat} {L : lS} {n s : Int} (hE : EL h x lo L) (irn : inR n) (irs : inR s) (hv : (0 ≤ s ∧ s < 6) ∧ 0 ≤ n) : xCt Ω yX5_whyNot cX5_whyNot 3 (some .int) rm_X5_whyNot0 [rf x, vi n, vi s] h (fun q h' => h = h' ∧ (((0 ≤ s ∧ s < 6)) ∧ (0 ≤ n)) ∧ q = some (vi (if n < aW (lA L) then why (lA L) n s else -1))) xNo := by
  refine xCt_of (ini := false) (by decide +kernel) (Nat.le_of_ble_eq_true rfl) (fun q => absurd q (by decide)) ?_
  generalize hPR : (fun q h' => h = h' ∧ (((0 ≤ s ∧ s < 6)) ∧ (0 ≤ n)) ∧ q = some (vi (if n < aW (lA L) then why (lA L) n s else -1)) : Option xV → xM → Prop) = PR
  have K0 : X Ω RX5 cX5_whyNot 3 (some .int) false rm_X5_whyNot0 PR xNo 0 0 0 [some (rf x), some (vi n), some (vi s)] [] h := ?_
  exact K0
  have okA : aOK (lA L) := hE.2.1.1.2.1
  obtain ⟨okB, okN, okWl, okS, okW, okM, okC, okH⟩ := id hE.2.1.1.2.1
  have hlo := hE.2.2.2.2.2.2
  have hz6 := hE.2.2.1.2.2.1
  have hnB : mI h (x + 1) 0 = aB (lA L) := hE.2.1.1.2.2.1
  have hnW : mI h (x + 1) 1 = aW (lA L) := hE.2.1.1.2.2.2.1
  have hHz : mI h (x + 31) 0 = lZ L := hE.2.2.1.2.1
  have hTn : mI h (x + 33) 0 = lTn L := hE.2.2.2.2.1.1
  have hTr := hE.2.2.2.2.1.2.1
  obtain ⟨irn1, irn2⟩ := irn
  obtain ⟨irs1, irs2⟩ := irs
  refine X.iload_n (i := 2) rfl rfl dX5_whyNot_0 (pc' := 1) rfl ?_
  refine X.callS (rm := rm_X5_requireSeat0) (As := [vi s]) (st := []) dX5_whyNot_1 ck_X5_39 rfl rfl ⟨Nat.le_of_ble_eq_true rfl, Nat.le_of_ble_eq_true rfl⟩ (Nat.le_of_ble_eq_true rfl) (Nat.le_of_ble_eq_true rfl) (Nat.le_of_ble_eq_true rfl) (pc' := 4) rfl (k_X5_requireSeat0 ⟨by omega, by omega⟩ (by omega)) (fun q1 hq1 eq1 => ?_) (fun _ _ x1 => x1.elim)
  obtain ⟨rfl, rfl, hse⟩ := eq1
  refine X.iload_n (i := 1) rfl rfl dX5_whyNot_4 (pc' := 5) rfl ?_
  refine X.if_lt (tgt := 12) dX5_whyNot_5 ⟨by omega, by omega⟩ (by decide) (pc' := 8) rfl (fun c5 => ?_) (fun c5 => ?_)
  · refine X.iconst dX5_whyNot_12 (pc' := 13) rfl ?_
    refine X.callS (rm := rm_X5_require0) (As := [vi 0]) (st := []) dX5_whyNot_13 ck_X5_47 rfl rfl ⟨Nat.le_of_ble_eq_true rfl, Nat.le_of_ble_eq_true rfl⟩ (Nat.le_of_ble_eq_true rfl) (Nat.le_of_ble_eq_true rfl) (Nat.le_of_ble_eq_true rfl) (pc' := 16) rfl (k_X5_require0 (by omega) (by omega)) (fun q2 hq2 eq2 => ?_) (fun _ _ x1 => x1.elim)
    obtain ⟨rfl, rfl, hrq⟩ := eq2
    exact absurd hrq (by decide)
  · refine X.iconst dX5_whyNot_8 (pc' := 9) rfl ?_
    refine X.goto (tgt := 13) dX5_whyNot_9 (by decide) ?_
    refine X.callS (rm := rm_X5_require0) (As := [vi 1]) (st := []) dX5_whyNot_13 ck_X5_47 rfl rfl ⟨Nat.le_of_ble_eq_true rfl, Nat.le_of_ble_eq_true rfl⟩ (Nat.le_of_ble_eq_true rfl) (Nat.le_of_ble_eq_true rfl) (Nat.le_of_ble_eq_true rfl) (pc' := 16) rfl (k_X5_require0 (by omega) (by omega)) (fun q3 hq3 eq3 => ?_) (fun _ _ x1 => x1.elim)
    obtain ⟨rfl, rfl, hrq⟩ := eq3
    refine X.iload_n (i := 1) rfl rfl dX5_whyNot_16 (pc' := 17) rfl ?_
    refine X.aload_n (i := 0) rfl rfl dX5_whyNot_17 (pc' := 18) rfl ?_
    refine X.getR fk_X5_10 xcl_5 dX5_whyNot_18 hE.1.1 hE.1.2.1 (pc' := 21) rfl ?_
    refine X.getI (x := aW (lA L)) fk_X5_116 xcl_0 dX5_whyNot_21 (by decide) hE.2.1.1.1.1 hE.2.1.1.2.2.2.1 (pc' := 24) rfl (fun r4 => ?_)
    obtain ⟨r4a, r4b⟩ := r4
    refine X.icmp_ge (tgt := 39) dX5_whyNot_24 ⟨by omega, by omega⟩ ⟨by omega, by omega⟩ (by decide) (pc' := 27) rfl (fun c24 => ?_) (fun c24 => ?_)
    · refine X.iconst dX5_whyNot_39 (pc' := 40) rfl ?_
      refine X.iret dX5_whyNot_40 (Or.inl rfl) (Nat.le_of_ble_eq_true rfl) (Nat.le_of_ble_eq_true rfl) ?_
      subst hPR
      exact ⟨rfl, ⟨by omega, by first | trivial | omega⟩, by rw [if_neg (by omega)]⟩
    · refine X.aload_n (i := 0) rfl rfl dX5_whyNot_27 (pc' := 28) rfl ?_
      refine X.getR fk_X5_21 xcl_5 dX5_whyNot_28 hE.1.1 hE.1.2.2.1 (pc' := 31) rfl ?_
      refine X.iload_n (i := 1) rfl rfl dX5_whyNot_31 (pc' := 32) rfl ?_
      refine X.iload_n (i := 2) rfl rfl dX5_whyNot_32 (pc' := 33) rfl ?_
      refine X.callV (ci := 3) (a := (x + 30)) (rm := rm_X3_whyUnheard) (As := [vi n, vi s]) (st := []) dX5_whyNot_33 ck_X5_163 rfl (by decide) hE.1.2.2.2.2.2.2.1.1 rfl rfl ⟨Nat.le_of_ble_eq_true rfl, Nat.le_of_ble_eq_true rfl⟩ (Nat.le_of_ble_eq_true rfl) (Nat.le_of_ble_eq_true rfl) (Nat.le_of_ble_eq_true rfl) (pc' := 36) rfl (k_X3_whyUnheard hE.1.2.2.2.2.2.2.1 hE.2.1 (by omega) (by omega)) (fun q5 hq5 eq5 => ?_) (fun _ _ x1 => x1.elim)
      obtain ⟨rfl, r6, rfl, hr6⟩ := eq5
      refine X.goto (tgt := 40) dX5_whyNot_36 (by decide) ?_
      refine X.iret dX5_whyNot_40 (Or.inl rfl) (Nat.le_of_ble_eq_true rfl) (Nat.le_of_ble_eq_true rfl) ?_
      subst hPR
      exact ⟨rfl, ⟨by omega, by first | trivial | omega⟩, by rw [if_pos (by omega), hr6]⟩
set_option maxHeartbeats 4000000 in
set_option maxRecDepth 100000 in
theorem k_X5_heardIn0 {Ω : xO} {h : xM} {x lo : Nat} {L : lS} {n s : Int} (hE : EL h x lo L) (irn : inR n) (irs : inR s) (hv : (0 ≤ s ∧ s < 6) ∧ 0 ≤ n) : xCt Ω yX5_heardIn cX5_heardIn 3 (some .int) rm_X5_heardIn0 [rf x, vi n, vi s] h (fun q h' => h = h' ∧ (((0 ≤ s ∧ s < 6)) ∧ (0 ≤ n)) ∧ q = some (vi (if n < aW (lA L) then sil (lA L) n s else -1))) xNo := by
  refine xCt_of (ini := false) (by decide +kernel) (Nat.le_of_ble_eq_true rfl) (fun q => absurd q (by decide)) ?_
  generalize hPR : (fun q h' => h = h' ∧ (((0 ≤ s ∧ s < 6)) ∧ (0 ≤ n)) ∧ q = some (vi (if n < aW (lA L) then sil (lA L) n s else -1)) : Option xV → xM → Prop) = PR
  have K0 : X Ω RX5 cX5_heardIn 3 (some .int) false rm_X5_heardIn0 PR xNo 0 0 0 [some (rf x), some (vi n), some (vi s)] [] h := ?_
  exact K0
  have okA : aOK (lA L) := hE.2.1.1.2.1
  obtain ⟨okB, okN, okWl, okS, okW, okM, okC, okH⟩ := id hE.2.1.1.2.1
  have hlo := hE.2.2.2.2.2.2
  have hz6 := hE.2.2.1.2.2.1
  have hnB : mI h (x + 1) 0 = aB (lA L) := hE.2.1.1.2.2.1
  have hnW : mI h (x + 1) 1 = aW (lA L) := hE.2.1.1.2.2.2.1
  have hHz : mI h (x + 31) 0 = lZ L := hE.2.2.1.2.1
  have hTn : mI h (x + 33) 0 = lTn L := hE.2.2.2.2.1.1
  have hTr := hE.2.2.2.2.1.2.1
  obtain ⟨irn1, irn2⟩ := irn
  obtain ⟨irs1, irs2⟩ := irs
  refine X.iload_n (i := 2) rfl rfl dX5_heardIn_0 (pc' := 1) rfl ?_
  refine X.callS (rm := rm_X5_requireSeat0) (As := [vi s]) (st := []) dX5_heardIn_1 ck_X5_39 rfl rfl ⟨Nat.le_of_ble_eq_true rfl, Nat.le_of_ble_eq_true rfl⟩ (Nat.le_of_ble_eq_true rfl) (Nat.le_of_ble_eq_true rfl) (Nat.le_of_ble_eq_true rfl) (pc' := 4) rfl (k_X5_requireSeat0 ⟨by omega, by omega⟩ (by omega)) (fun q1 hq1 eq1 => ?_) (fun _ _ x1 => x1.elim)
  obtain ⟨rfl, rfl, hse⟩ := eq1
  refine X.iload_n (i := 1) rfl rfl dX5_heardIn_4 (pc' := 5) rfl ?_
  refine X.if_lt (tgt := 12) dX5_heardIn_5 ⟨by omega, by omega⟩ (by decide) (pc' := 8) rfl (fun c5 => ?_) (fun c5 => ?_)
  · refine X.iconst dX5_heardIn_12 (pc' := 13) rfl ?_
    refine X.callS (rm := rm_X5_require0) (As := [vi 0]) (st := []) dX5_heardIn_13 ck_X5_47 rfl rfl ⟨Nat.le_of_ble_eq_true rfl, Nat.le_of_ble_eq_true rfl⟩ (Nat.le_of_ble_eq_true rfl) (Nat.le_of_ble_eq_true rfl) (Nat.le_of_ble_eq_true rfl) (pc' := 16) rfl (k_X5_require0 (by omega) (by omega)) (fun q2 hq2 eq2 => ?_) (fun _ _ x1 => x1.elim)
    obtain ⟨rfl, rfl, hrq⟩ := eq2
    exact absurd hrq (by decide)
  · refine X.iconst dX5_heardIn_8 (pc' := 9) rfl ?_
    refine X.goto (tgt := 13) dX5_heardIn_9 (by decide) ?_
    refine X.callS (rm := rm_X5_require0) (As := [vi 1]) (st := []) dX5_heardIn_13 ck_X5_47 rfl rfl ⟨Nat.le_of_ble_eq_true rfl, Nat.le_of_ble_eq_true rfl⟩ (Nat.le_of_ble_eq_true rfl) (Nat.le_of_ble_eq_true rfl) (Nat.le_of_ble_eq_true rfl) (pc' := 16) rfl (k_X5_require0 (by omega) (by omega)) (fun q3 hq3 eq3 => ?_) (fun _ _ x1 => x1.elim)
    obtain ⟨rfl, rfl, hrq⟩ := eq3
    refine X.iload_n (i := 1) rfl rfl dX5_heardIn_16 (pc' := 17) rfl ?_
    refine X.aload_n (i := 0) rfl rfl dX5_heardIn_17 (pc' := 18) rfl ?_
    refine X.getR fk_X5_10 xcl_5 dX5_heardIn_18 hE.1.1 hE.1.2.1 (pc' := 21) rfl ?_
    refine X.getI (x := aW (lA L)) fk_X5_116 xcl_0 dX5_heardIn_21 (by decide) hE.2.1.1.1.1 hE.2.1.1.2.2.2.1 (pc' := 24) rfl (fun r4 => ?_)
    obtain ⟨r4a, r4b⟩ := r4
    refine X.icmp_ge (tgt := 39) dX5_heardIn_24 ⟨by omega, by omega⟩ ⟨by omega, by omega⟩ (by decide) (pc' := 27) rfl (fun c24 => ?_) (fun c24 => ?_)
    · refine X.iconst dX5_heardIn_39 (pc' := 40) rfl ?_
      refine X.iret dX5_heardIn_40 (Or.inl rfl) (Nat.le_of_ble_eq_true rfl) (Nat.le_of_ble_eq_true rfl) ?_
      subst hPR
      exact ⟨rfl, ⟨by omega, by first | trivial | omega⟩, by rw [if_neg (by omega)]⟩
    · refine X.aload_n (i := 0) rfl rfl dX5_heardIn_27 (pc' := 28) rfl ?_
      refine X.getR fk_X5_21 xcl_5 dX5_heardIn_28 hE.1.1 hE.1.2.2.1 (pc' := 31) rfl ?_
      refine X.iload_n (i := 1) rfl rfl dX5_heardIn_31 (pc' := 32) rfl ?_
      refine X.iload_n (i := 2) rfl rfl dX5_heardIn_32 (pc' := 33) rfl ?_
      refine X.callV (ci := 3) (a := (x + 30)) (rm := rm_X3_silentBeatsUntilHeard) (As := [vi n, vi s]) (st := []) dX5_heardIn_33 ck_X5_169 rfl (by decide) hE.1.2.2.2.2.2.2.1.1 rfl rfl ⟨Nat.le_of_ble_eq_true rfl, Nat.le_of_ble_eq_true rfl⟩ (Nat.le_of_ble_eq_true rfl) (Nat.le_of_ble_eq_true rfl) (Nat.le_of_ble_eq_true rfl) (pc' := 36) rfl (k_X3_silentBeatsUntilHeard hE.1.2.2.2.2.2.2.1 hE.2.1 (by omega) (by omega)) (fun q5 hq5 eq5 => ?_) (fun _ _ x1 => x1.elim)
      obtain ⟨rfl, r6, rfl, hr6⟩ := eq5
      refine X.goto (tgt := 40) dX5_heardIn_36 (by decide) ?_
      refine X.iret dX5_heardIn_40 (Or.inl rfl) (Nat.le_of_ble_eq_true rfl) (Nat.le_of_ble_eq_true rfl) ?_
      subst hPR
      exact ⟨rfl, ⟨by omega, by first | trivial | omega⟩, by rw [if_pos (by omega), hr6]⟩
set_option maxHeartbeats 4000000 in
set_option maxRecDepth 100000 in
theorem k_X5_ifSilent0 {Ω : xO} {h : xM} {x lo : Nat} {L : lS} {s : Int} (hE : EL h x lo L) (irs : inR s) (hv : 0 ≤ s ∧ s < 6) : xCt Ω yX5_ifSilent cX5_ifSilent 2 (some .int) rm_X5_ifSilent0 [rf x, vi s] h (fun q h' => h = h' ∧ (((0 ≤ s ∧ s < 6)) ∧ (True)) ∧ q = some (vi (vce (lA L) s (aB (lA L))))) xNo := by
  refine xCt_of (ini := false) (by decide +kernel) (Nat.le_of_ble_eq_true rfl) (fun q => absurd q (by decide)) ?_
  generalize hPR : (fun q h' => h = h' ∧ (((0 ≤ s ∧ s < 6)) ∧ (True)) ∧ q = some (vi (vce (lA L) s (aB (lA L)))) : Option xV → xM → Prop) = PR
  have K0 : X Ω RX5 cX5_ifSilent 2 (some .int) false rm_X5_ifSilent0 PR xNo 0 0 0 [some (rf x), some (vi s)] [] h := ?_
  exact K0
  have okA : aOK (lA L) := hE.2.1.1.2.1
  obtain ⟨okB, okN, okWl, okS, okW, okM, okC, okH⟩ := id hE.2.1.1.2.1
  have hlo := hE.2.2.2.2.2.2
  have hz6 := hE.2.2.1.2.2.1
  have hnB : mI h (x + 1) 0 = aB (lA L) := hE.2.1.1.2.2.1
  have hnW : mI h (x + 1) 1 = aW (lA L) := hE.2.1.1.2.2.2.1
  have hHz : mI h (x + 31) 0 = lZ L := hE.2.2.1.2.1
  have hTn : mI h (x + 33) 0 = lTn L := hE.2.2.2.2.1.1
  have hTr := hE.2.2.2.2.1.2.1
  obtain ⟨irs1, irs2⟩ := irs
  refine X.iload_n (i := 1) rfl rfl dX5_ifSilent_0 (pc' := 1) rfl ?_
  refine X.callS (rm := rm_X5_requireSeat0) (As := [vi s]) (st := []) dX5_ifSilent_1 ck_X5_39 rfl rfl ⟨Nat.le_of_ble_eq_true rfl, Nat.le_of_ble_eq_true rfl⟩ (Nat.le_of_ble_eq_true rfl) (Nat.le_of_ble_eq_true rfl) (Nat.le_of_ble_eq_true rfl) (pc' := 4) rfl (k_X5_requireSeat0 ⟨by omega, by omega⟩ (by omega)) (fun q1 hq1 eq1 => ?_) (fun _ _ x1 => x1.elim)
  obtain ⟨rfl, rfl, hse⟩ := eq1
  refine X.aload_n (i := 0) rfl rfl dX5_ifSilent_4 (pc' := 5) rfl ?_
  refine X.getR fk_X5_10 xcl_5 dX5_ifSilent_5 hE.1.1 hE.1.2.1 (pc' := 8) rfl ?_
  refine X.iload_n (i := 1) rfl rfl dX5_ifSilent_8 (pc' := 9) rfl ?_
  refine X.aload_n (i := 0) rfl rfl dX5_ifSilent_9 (pc' := 10) rfl ?_
  refine X.getR fk_X5_10 xcl_5 dX5_ifSilent_10 hE.1.1 hE.1.2.1 (pc' := 13) rfl ?_
  refine X.getI (x := aB (lA L)) fk_X5_78 xcl_0 dX5_ifSilent_13 (by decide) hE.2.1.1.1.1 hE.2.1.1.2.2.1 (pc' := 16) rfl (fun r2 => ?_)
  obtain ⟨r2a, r2b⟩ := r2
  refine X.callV (ci := 0) (a := (x + 1)) (rm := rm_X0_secondLast) (As := [vi s, vi (aB (lA L))]) (st := []) dX5_ifSilent_16 ck_X5_166 rfl (by decide) hE.2.1.1.1.1 rfl rfl ⟨Nat.le_of_ble_eq_true rfl, Nat.le_of_ble_eq_true rfl⟩ (Nat.le_of_ble_eq_true rfl) (Nat.le_of_ble_eq_true rfl) (Nat.le_of_ble_eq_true rfl) (pc' := 19) rfl (k_X0_secondLast hE.2.1.1 (by omega) (by omega)) (fun q3 hq3 eq3 => ?_) (fun _ _ x1 => x1.elim)
  obtain ⟨rfl, r4, rfl, hr4⟩ := eq3
  refine X.iret dX5_ifSilent_19 (Or.inl rfl) (Nat.le_of_ble_eq_true rfl) (Nat.le_of_ble_eq_true rfl) ?_
  subst hPR
  exact ⟨rfl, ⟨by omega, by first | trivial | omega⟩, by rw [hr4]⟩
