/-- the distance of two seats -/
def dist (x y : Int) : Int := if (if y < x then x - y else y - x) > 3 then 6 - (if y < x then x - y else y - x) else (if y < x then x - y else y - x)

set_option maxHeartbeats 4000000 in
set_option maxRecDepth 100000 in
theorem k_X5_isWithin {Ω : xO} {h : xM} {v lo hi : Int} (hv : inR v) (hl : inR lo) (hh : inR hi) : xCt Ω yX5_isWithin cX5_isWithin 3 (some .boolean) rm_X5_isWithin [vi v, vi lo, vi hi] h (fun q h' => h = h' ∧ ∃ r, q = some (vi r) ∧ (((lo ≤ v ∧ v ≤ hi) ∧ r = 1) ∨ ((v < lo ∨ hi < v) ∧ r = 0))) xNo := by
  refine xCt_of (ini := false) (by decide +kernel) (Nat.le_of_ble_eq_true rfl) (fun q => absurd q (by decide)) ?_
  generalize hPR : (fun q h' => h = h' ∧ ∃ r, q = some (vi r) ∧ (((lo ≤ v ∧ v ≤ hi) ∧ r = 1) ∨ ((v < lo ∨ hi < v) ∧ r = 0)) : Option xV → xM → Prop) = PR
  have K0 : X Ω RX5 cX5_isWithin 3 (some .boolean) false rm_X5_isWithin PR xNo 0 0 0 [some (vi v), some (vi lo), some (vi hi)] [] h := ?_
  exact K0
  obtain ⟨hv1, hv2⟩ := hv
  obtain ⟨hl1, hl2⟩ := hl
  obtain ⟨hh1, hh2⟩ := hh
  refine X.iload_n (i := 0) rfl rfl dX5_isWithin_0 (pc' := 1) rfl ?_
  refine X.iload_n (i := 1) rfl rfl dX5_isWithin_1 (pc' := 2) rfl ?_
  refine X.icmp_lt (tgt := 14) dX5_isWithin_2 ⟨by omega, by omega⟩ ⟨by omega, by omega⟩ (by decide) (pc' := 5) rfl (fun c2 => ?_) (fun c2 => ?_)
  · refine X.iconst dX5_isWithin_14 (pc' := 15) rfl ?_
    refine X.iret dX5_isWithin_15 (Or.inr ⟨rfl, by omega⟩) (Nat.le_of_ble_eq_true rfl) (Nat.le_of_ble_eq_true rfl) ?_
    subst hPR
    exact ⟨rfl, _, rfl, by omega⟩
  · refine X.iload_n (i := 0) rfl rfl dX5_isWithin_5 (pc' := 6) rfl ?_
    refine X.iload_n (i := 2) rfl rfl dX5_isWithin_6 (pc' := 7) rfl ?_
    refine X.icmp_gt (tgt := 14) dX5_isWithin_7 ⟨by omega, by omega⟩ ⟨by omega, by omega⟩ (by decide) (pc' := 10) rfl (fun c7 => ?_) (fun c7 => ?_)
    · refine X.iconst dX5_isWithin_14 (pc' := 15) rfl ?_
      refine X.iret dX5_isWithin_15 (Or.inr ⟨rfl, by omega⟩) (Nat.le_of_ble_eq_true rfl) (Nat.le_of_ble_eq_true rfl) ?_
      subst hPR
      exact ⟨rfl, _, rfl, by omega⟩
    · refine X.iconst dX5_isWithin_10 (pc' := 11) rfl ?_
      refine X.goto (tgt := 15) dX5_isWithin_11 (by decide) ?_
      refine X.iret dX5_isWithin_15 (Or.inr ⟨rfl, by omega⟩) (Nat.le_of_ble_eq_true rfl) (Nat.le_of_ble_eq_true rfl) ?_
      subst hPR
      exact ⟨rfl, _, rfl, by omega⟩
set_option maxHeartbeats 4000000 in
set_option maxRecDepth 100000 in
theorem k_X6_in {Ω : xO} {h : xM} {v lo hi : Int} (hv : inR v) (hl : inR lo) (hh : inR hi) : xCt Ω yX6_in cX6_in 3 (some .boolean) rm_X6_in [vi v, vi lo, vi hi] h (fun q h' => h = h' ∧ ∃ r, q = some (vi r) ∧ (((lo ≤ v ∧ v ≤ hi) ∧ r = 1) ∨ ((v < lo ∨ hi < v) ∧ r = 0))) xNo := by
  refine xCt_of (ini := false) (by decide +kernel) (Nat.le_of_ble_eq_true rfl) (fun q => absurd q (by decide)) ?_
  generalize hPR : (fun q h' => h = h' ∧ ∃ r, q = some (vi r) ∧ (((lo ≤ v ∧ v ≤ hi) ∧ r = 1) ∨ ((v < lo ∨ hi < v) ∧ r = 0)) : Option xV → xM → Prop) = PR
  have K0 : X Ω RX6 cX6_in 3 (some .boolean) false rm_X6_in PR xNo 0 0 0 [some (vi v), some (vi lo), some (vi hi)] [] h := ?_
  exact K0
  obtain ⟨hv1, hv2⟩ := hv
  obtain ⟨hl1, hl2⟩ := hl
  obtain ⟨hh1, hh2⟩ := hh
  refine X.iload_n (i := 0) rfl rfl dX6_in_0 (pc' := 1) rfl ?_
  refine X.iload_n (i := 1) rfl rfl dX6_in_1 (pc' := 2) rfl ?_
  refine X.icmp_lt (tgt := 14) dX6_in_2 ⟨by omega, by omega⟩ ⟨by omega, by omega⟩ (by decide) (pc' := 5) rfl (fun c2 => ?_) (fun c2 => ?_)
  · refine X.iconst dX6_in_14 (pc' := 15) rfl ?_
    refine X.iret dX6_in_15 (Or.inr ⟨rfl, by omega⟩) (Nat.le_of_ble_eq_true rfl) (Nat.le_of_ble_eq_true rfl) ?_
    subst hPR
    exact ⟨rfl, _, rfl, by omega⟩
  · refine X.iload_n (i := 0) rfl rfl dX6_in_5 (pc' := 6) rfl ?_
    refine X.iload_n (i := 2) rfl rfl dX6_in_6 (pc' := 7) rfl ?_
    refine X.icmp_gt (tgt := 14) dX6_in_7 ⟨by omega, by omega⟩ ⟨by omega, by omega⟩ (by decide) (pc' := 10) rfl (fun c7 => ?_) (fun c7 => ?_)
    · refine X.iconst dX6_in_14 (pc' := 15) rfl ?_
      refine X.iret dX6_in_15 (Or.inr ⟨rfl, by omega⟩) (Nat.le_of_ble_eq_true rfl) (Nat.le_of_ble_eq_true rfl) ?_
      subst hPR
      exact ⟨rfl, _, rfl, by omega⟩
    · refine X.iconst dX6_in_10 (pc' := 11) rfl ?_
      refine X.goto (tgt := 15) dX6_in_11 (by decide) ?_
      refine X.iret dX6_in_15 (Or.inr ⟨rfl, by omega⟩) (Nat.le_of_ble_eq_true rfl) (Nat.le_of_ble_eq_true rfl) ?_
      subst hPR
      exact ⟨rfl, _, rfl, by omega⟩
set_option maxHeartbeats 4000000 in
set_option maxRecDepth 100000 in
theorem k_X6_apart {Ω : xO} {h : xM} {x y : Int} (hx : 0 ≤ x ∧ x < 6) (hy : 0 ≤ y ∧ y < 6) : xCt Ω yX6_apart cX6_apart 3 (some .int) rm_X6_apart [vi x, vi y] h (fun q h' => h = h' ∧ ∃ r, q = some (vi r) ∧ r = dist x y) xNo := by
  refine xCt_of (ini := false) (by decide +kernel) (Nat.le_of_ble_eq_true rfl) (fun q => absurd q (by decide)) ?_
  generalize hPR : (fun q h' => h = h' ∧ ∃ r, q = some (vi r) ∧ r = dist x y : Option xV → xM → Prop) = PR
  have K0 : X Ω RX6 cX6_apart 3 (some .int) false rm_X6_apart PR xNo 0 0 0 [some (vi x), some (vi y), none] [] h := ?_
  exact K0
  refine X.iload_n (i := 0) rfl rfl dX6_apart_0 (pc' := 1) rfl ?_
  refine X.iload_n (i := 1) rfl rfl dX6_apart_1 (pc' := 2) rfl ?_
  refine X.icmp_le (tgt := 11) dX6_apart_2 ⟨by omega, by omega⟩ ⟨by omega, by omega⟩ (by decide) (pc' := 5) rfl (fun c2 => ?_) (fun c2 => ?_)
  · refine X.iload_n (i := 1) rfl rfl dX6_apart_11 (pc' := 12) rfl ?_
    refine X.iload_n (i := 0) rfl rfl dX6_apart_12 (pc' := 13) rfl ?_
    refine X.isub dX6_apart_13 (pc' := 14) rfl ?_
    refine X.gen (fun x1 hx1 => ?_)
    refine X.istore_n (i := 2) (ls' := [some (vi x), some (vi y), some (vi x1)]) (hi := rfl) (hd := dX6_apart_14) (by decide) rfl rfl (pc' := 15) rfl ?_
    refine X.iload_n (i := 2) rfl rfl dX6_apart_15 (pc' := 16) rfl ?_
    refine X.iconst dX6_apart_16 (pc' := 17) rfl ?_
    refine X.icmp_le (tgt := 27) dX6_apart_17 ⟨by omega, by omega⟩ ⟨by omega, by omega⟩ (by decide) (pc' := 20) rfl (fun c17 => ?_) (fun c17 => ?_)
    · refine X.iload_n (i := 2) rfl rfl dX6_apart_27 (pc' := 28) rfl ?_
      refine X.iret dX6_apart_28 (Or.inl rfl) (Nat.le_of_ble_eq_true rfl) (Nat.le_of_ble_eq_true rfl) ?_
      subst hPR
      exact ⟨rfl, _, rfl, by unfold dist; split <;> split <;> omega⟩
    · refine X.bipush (by decide +kernel) dX6_apart_20 (pc' := 22) rfl ?_
      refine X.iload_n (i := 2) rfl rfl dX6_apart_22 (pc' := 23) rfl ?_
      refine X.isub dX6_apart_23 (pc' := 24) rfl ?_
      refine X.goto (tgt := 28) dX6_apart_24 (by decide) ?_
      refine X.iret dX6_apart_28 (Or.inl rfl) (Nat.le_of_ble_eq_true rfl) (Nat.le_of_ble_eq_true rfl) ?_
      subst hPR
      exact ⟨rfl, _, rfl, by unfold dist; split <;> split <;> omega⟩
  · refine X.iload_n (i := 0) rfl rfl dX6_apart_5 (pc' := 6) rfl ?_
    refine X.iload_n (i := 1) rfl rfl dX6_apart_6 (pc' := 7) rfl ?_
    refine X.isub dX6_apart_7 (pc' := 8) rfl ?_
    refine X.goto (tgt := 14) dX6_apart_8 (by decide) ?_
    refine X.gen (fun x2 hx2 => ?_)
    refine X.istore_n (i := 2) (ls' := [some (vi x), some (vi y), some (vi x2)]) (hi := rfl) (hd := dX6_apart_14) (by decide) rfl rfl (pc' := 15) rfl ?_
    refine X.iload_n (i := 2) rfl rfl dX6_apart_15 (pc' := 16) rfl ?_
    refine X.iconst dX6_apart_16 (pc' := 17) rfl ?_
    refine X.icmp_le (tgt := 27) dX6_apart_17 ⟨by omega, by omega⟩ ⟨by omega, by omega⟩ (by decide) (pc' := 20) rfl (fun c17 => ?_) (fun c17 => ?_)
    · refine X.iload_n (i := 2) rfl rfl dX6_apart_27 (pc' := 28) rfl ?_
      refine X.iret dX6_apart_28 (Or.inl rfl) (Nat.le_of_ble_eq_true rfl) (Nat.le_of_ble_eq_true rfl) ?_
      subst hPR
      exact ⟨rfl, _, rfl, by unfold dist; split <;> split <;> omega⟩
    · refine X.bipush (by decide +kernel) dX6_apart_20 (pc' := 22) rfl ?_
      refine X.iload_n (i := 2) rfl rfl dX6_apart_22 (pc' := 23) rfl ?_
      refine X.isub dX6_apart_23 (pc' := 24) rfl ?_
      refine X.goto (tgt := 28) dX6_apart_24 (by decide) ?_
      refine X.iret dX6_apart_28 (Or.inl rfl) (Nat.le_of_ble_eq_true rfl) (Nat.le_of_ble_eq_true rfl) ?_
      subst hPR
      exact ⟨rfl, _, rfl, by unfold dist; split <;> split <;> omega⟩
set_option maxHeartbeats 4000000 in
set_option maxRecDepth 100000 in
theorem k_X0_messagePlace {Ω : xO} {h : xM} {x y : Int}  : xCt Ω yX0_messagePlace cX0_messagePlace 2 (some .int) rm_X0_messagePlace [vi x, vi y] h (fun q h' => h = h' ∧ ∃ r, q = some (vi r) ∧ r = x * 10 + y) xNo := by
  refine xCt_of (ini := false) (by decide +kernel) (Nat.le_of_ble_eq_true rfl) (fun q => absurd q (by decide)) ?_
  generalize hPR : (fun q h' => h = h' ∧ ∃ r, q = some (vi r) ∧ r = x * 10 + y : Option xV → xM → Prop) = PR
  have K0 : X Ω RX0 cX0_messagePlace 2 (some .int) false rm_X0_messagePlace PR xNo 0 0 0 [some (vi x), some (vi y)] [] h := ?_
  exact K0
  refine X.iload_n (i := 0) rfl rfl dX0_messagePlace_0 (pc' := 1) rfl ?_
  refine X.bipush (by decide +kernel) dX0_messagePlace_1 (pc' := 3) rfl ?_
  refine X.imul dX0_messagePlace_3 (pc' := 4) rfl ?_
  refine X.iload_n (i := 1) rfl rfl dX0_messagePlace_4 (pc' := 5) rfl ?_
  refine X.iadd dX0_messagePlace_5 (pc' := 6) rfl ?_
  refine X.iret dX0_messagePlace_6 (Or.inl rfl) (Nat.le_of_ble_eq_true rfl) (Nat.le_of_ble_eq_true rfl) ?_
  subst hPR
  exact ⟨rfl, _, rfl, by omega⟩
set_option maxHeartbeats 4000000 in
set_option maxRecDepth 100000 in
theorem k_X0_canSpeak {Ω : xO} {h : xM} {b : Nat} (hC : ChS h b) : xCt Ω yX0_canSpeak cX0_canSpeak 1 (some .boolean) rm_X0_canSpeak [rf b] h (fun q h' => h = h' ∧ ∃ r, q = some (vi r) ∧ (((mI h b 1 < 200 ∧ mI h b 0 < 400) ∧ r = 1) ∨ ((200 ≤ mI h b 1 ∨ 400 ≤ mI h b 0) ∧ r = 0))) xNo := by
  refine xCt_of (ini := false) (by decide +kernel) (Nat.le_of_ble_eq_true rfl) (fun q => absurd q (by decide)) ?_
  generalize hPR : (fun q h' => h = h' ∧ ∃ r, q = some (vi r) ∧ (((mI h b 1 < 200 ∧ mI h b 0 < 400) ∧ r = 1) ∨ ((200 ≤ mI h b 1 ∨ 400 ≤ mI h b 0) ∧ r = 0)) : Option xV → xM → Prop) = PR
  have K0 : X Ω RX0 cX0_canSpeak 1 (some .boolean) false rm_X0_canSpeak PR xNo 0 0 0 [some (rf b)] [] h := ?_
  exact K0
  refine X.aload_n (i := 0) rfl rfl dX0_canSpeak_0 (pc' := 1) rfl ?_
  refine X.getI (x := mI h b 1) fk_X0_48 xcl_0 dX0_canSpeak_1 (by decide) hC.1 rfl (pc' := 4) rfl (fun r1 => ?_)
  obtain ⟨r1a, r1b⟩ := r1
  refine X.sipush (by decide +kernel) dX0_canSpeak_4 (pc' := 7) rfl ?_
  refine X.icmp_ge (tgt := 24) dX0_canSpeak_7 ⟨by omega, by omega⟩ ⟨by omega, by omega⟩ (by decide) (pc' := 10) rfl (fun c7 => ?_) (fun c7 => ?_)
  · refine X.iconst dX0_canSpeak_24 (pc' := 25) rfl ?_
    refine X.iret dX0_canSpeak_25 (Or.inr ⟨rfl, by omega⟩) (Nat.le_of_ble_eq_true rfl) (Nat.le_of_ble_eq_true rfl) ?_
    subst hPR
    exact ⟨rfl, _, rfl, by omega⟩
  · refine X.aload_n (i := 0) rfl rfl dX0_canSpeak_10 (pc' := 11) rfl ?_
    refine X.getI (x := mI h b 0) fk_X0_44 xcl_0 dX0_canSpeak_11 (by decide) hC.1 rfl (pc' := 14) rfl (fun r2 => ?_)
    obtain ⟨r2a, r2b⟩ := r2
    refine X.sipush (by decide +kernel) dX0_canSpeak_14 (pc' := 17) rfl ?_
    refine X.icmp_ge (tgt := 24) dX0_canSpeak_17 ⟨by omega, by omega⟩ ⟨by omega, by omega⟩ (by decide) (pc' := 20) rfl (fun c17 => ?_) (fun c17 => ?_)
    · refine X.iconst dX0_canSpeak_24 (pc' := 25) rfl ?_
      refine X.iret dX0_canSpeak_25 (Or.inr ⟨rfl, by omega⟩) (Nat.le_of_ble_eq_true rfl) (Nat.le_of_ble_eq_true rfl) ?_
      subst hPR
      exact ⟨rfl, _, rfl, by omega⟩
    · refine X.iconst dX0_canSpeak_20 (pc' := 21) rfl ?_
      refine X.goto (tgt := 25) dX0_canSpeak_21 (by decide) ?_
      refine X.iret dX0_canSpeak_25 (Or.inr ⟨rfl, by omega⟩) (Nat.le_of_ble_eq_true rfl) (Nat.le_of_ble_eq_true rfl) ?_
      subst hPR
      exact ⟨rfl, _, rfl, by omega⟩
set_option maxHeartbeats 4000000 in
set_option maxRecDepth 100000 in
theorem k_X0_canRest {Ω : xO} {h : xM} {b : Nat} {n : Int} (hC : ChS h b) (hn : 1 ≤ n ∧ n ≤ 1000000) (hb : 0 ≤ mI h b 0 ∧ mI h b 0 ≤ 400) : xCt Ω yX0_canRest cX0_canRest 2 (some .boolean) rm_X0_canRest [rf b, vi n] h (fun q h' => h = h' ∧ ∃ r, q = some (vi r) ∧ (((mI h b 0 + n ≤ 400) ∧ r = 1) ∨ ((400 < mI h b 0 + n) ∧ r = 0))) xNo := by
  refine xCt_of (ini := false) (by decide +kernel) (Nat.le_of_ble_eq_true rfl) (fun q => absurd q (by decide)) ?_
  generalize hPR : (fun q h' => h = h' ∧ ∃ r, q = some (vi r) ∧ (((mI h b 0 + n ≤ 400) ∧ r = 1) ∨ ((400 < mI h b 0 + n) ∧ r = 0)) : Option xV → xM → Prop) = PR
  have K0 : X Ω RX0 cX0_canRest 2 (some .boolean) false rm_X0_canRest PR xNo 0 0 0 [some (rf b), some (vi n)] [] h := ?_
  exact K0
  refine X.aload_n (i := 0) rfl rfl dX0_canRest_0 (pc' := 1) rfl ?_
  refine X.getI (x := mI h b 0) fk_X0_44 xcl_0 dX0_canRest_1 (by decide) hC.1 rfl (pc' := 4) rfl (fun r1 => ?_)
  obtain ⟨r1a, r1b⟩ := r1
  refine X.iload_n (i := 1) rfl rfl dX0_canRest_4 (pc' := 5) rfl ?_
  refine X.iadd dX0_canRest_5 (pc' := 6) rfl ?_
  refine X.sipush (by decide +kernel) dX0_canRest_6 (pc' := 9) rfl ?_
  refine X.icmp_gt (tgt := 16) dX0_canRest_9 ⟨by omega, by omega⟩ ⟨by omega, by omega⟩ (by decide) (pc' := 12) rfl (fun c9 => ?_) (fun c9 => ?_)
  · refine X.iconst dX0_canRest_16 (pc' := 17) rfl ?_
    refine X.iret dX0_canRest_17 (Or.inr ⟨rfl, by omega⟩) (Nat.le_of_ble_eq_true rfl) (Nat.le_of_ble_eq_true rfl) ?_
    subst hPR
    exact ⟨rfl, _, rfl, by omega⟩
  · refine X.iconst dX0_canRest_12 (pc' := 13) rfl ?_
    refine X.goto (tgt := 17) dX0_canRest_13 (by decide) ?_
    refine X.iret dX0_canRest_17 (Or.inr ⟨rfl, by omega⟩) (Nat.le_of_ble_eq_true rfl) (Nat.le_of_ble_eq_true rfl) ?_
    subst hPR
    exact ⟨rfl, _, rfl, by omega⟩
