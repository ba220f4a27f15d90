set_option maxHeartbeats 4000000 in
set_option maxRecDepth 100000 in
theorem k_X6_heardAt {Ω : xO} {h : xM} {m : Nat} {A : aS} {s k : Int} (hS : MoS h m) (hM : RM h (m + 1) 0 A) (hA : aOK A) (hs : 0 ≤ s ∧ s < 6) (hk : inR k) : xCt Ω yX6_heardAt cX6_heardAt 3 (some .int) rm_X6_heardAt [rf m, vi s, vi k] h (fun q h' => h = h' ∧ ∃ r, q = some (vi r) ∧ r = if 0 ≤ k ∧ k < aB A then aHe A s k else -1) xNo := by
  refine xCt_of (ini := false) (by decide +kernel) (Nat.le_of_ble_eq_true rfl) (fun q => absurd q (by decide)) ?_
  generalize hPR : (fun q h' => h = h' ∧ ∃ r, q = some (vi r) ∧ r = if 0 ≤ k ∧ k < aB A then aHe A s k else -1 : Option xV → xM → Prop) = PR
  have K0 : X Ω RX6 cX6_heardAt 3 (some .int) false rm_X6_heardAt PR xNo 0 0 0 [some (rf m), some (vi s), some (vi k)] [] h := ?_
  exact K0
  obtain ⟨mSt, mB, mW, mWl, mWo, mCo, mHe⟩ := id hM
  obtain ⟨okB, okN, okWl, okS, okW, okM, okC, okH⟩ := id hA
  obtain ⟨hk1, hk2⟩ := hk
  refine X.iload_n (i := 2) rfl rfl dX6_heardAt_0 (pc' := 1) rfl ?_
  refine X.iconst dX6_heardAt_1 (pc' := 2) rfl ?_
  refine X.aload_n (i := 0) rfl rfl dX6_heardAt_2 (pc' := 3) rfl ?_
  refine X.getR fk_X6_8 xcl_6 dX6_heardAt_3 hS.1 hS.2.1 (pc' := 6) rfl ?_
  refine X.iconst dX6_heardAt_6 (pc' := 7) rfl ?_
  refine X.iald (x := aB A) dX6_heardAt_7 hS.2.2.1 (by omega) (by omega) ⟨by omega, by omega⟩ (mI_at mB (by omega)) (pc' := 8) rfl (fun r1 => ?_)
  obtain ⟨r1a, r1b⟩ := r1
  refine X.iconst dX6_heardAt_8 (pc' := 9) rfl ?_
  refine X.isub dX6_heardAt_9 (pc' := 10) rfl ?_
  refine X.callS (rm := rm_X6_in) (As := [vi k, vi 0, vi ((aB A) - 1)]) (st := []) dX6_heardAt_10 ck_X6_32 rfl rfl ⟨Nat.le_of_ble_eq_true rfl, Nat.le_of_ble_eq_true rfl⟩ (Nat.le_of_ble_eq_true rfl) (Nat.le_of_ble_eq_true rfl) (Nat.le_of_ble_eq_true rfl) (pc' := 13) rfl (k_X6_in ⟨by omega, by omega⟩ ⟨by omega, by omega⟩ ⟨by omega, by omega⟩) (fun q2 hq2 eq2 => ?_) (fun _ _ x1 => x1.elim)
  obtain ⟨rfl, r3, rfl, hr3⟩ := eq2
  refine X.if_eq (tgt := 35) dX6_heardAt_13 ⟨by omega, by omega⟩ (by decide) (pc' := 16) rfl (fun c13 => ?_) (fun c13 => ?_)
  · refine X.iconst dX6_heardAt_35 (pc' := 36) rfl ?_
    refine X.iret dX6_heardAt_36 (Or.inl rfl) (Nat.le_of_ble_eq_true rfl) (Nat.le_of_ble_eq_true rfl) ?_
    subst hPR
    exact ⟨rfl, _, rfl, by rw [if_neg (by omega)]⟩
  · refine X.aload_n (i := 0) rfl rfl dX6_heardAt_16 (pc' := 17) rfl ?_
    refine X.getR fk_X6_8 xcl_6 dX6_heardAt_17 hS.1 hS.2.1 (pc' := 20) rfl ?_
    refine X.sipush (by decide +kernel) dX6_heardAt_20 (pc' := 23) rfl ?_
    refine X.sipush (by decide +kernel) dX6_heardAt_23 (pc' := 26) rfl ?_
    refine X.iload_n (i := 1) rfl rfl dX6_heardAt_26 (pc' := 27) rfl ?_
    refine X.imul dX6_heardAt_27 (pc' := 28) rfl ?_
    refine X.iadd dX6_heardAt_28 (pc' := 29) rfl ?_
    refine X.iload_n (i := 2) rfl rfl dX6_heardAt_29 (pc' := 30) rfl ?_
    refine X.iadd dX6_heardAt_30 (pc' := 31) rfl ?_
    refine X.iald (x := aHe A s k) dX6_heardAt_31 hS.2.2.1 (by omega) (by omega) ⟨by omega, by omega⟩ (mI_at (mHe s k (by omega) (by omega) (by omega) (by omega)) (by omega)) (pc' := 32) rfl (fun r4 => ?_)
    obtain ⟨r4a, r4b⟩ := r4
    have r4c := okH s k (by omega) (by omega) (by omega) (by omega)
    refine X.goto (tgt := 36) dX6_heardAt_32 (by decide) ?_
    refine X.iret dX6_heardAt_36 (Or.inl rfl) (Nat.le_of_ble_eq_true rfl) (Nat.le_of_ble_eq_true rfl) ?_
    subst hPR
    exact ⟨rfl, _, rfl, by rw [if_pos (by omega)]⟩
set_option maxHeartbeats 4000000 in
set_option maxRecDepth 100000 in
theorem k_X6_firstHeard {Ω : xO} {h : xM} {m : Nat} {A : aS} {n s : Int} (hS : MoS h m) (hM : RM h (m + 1) 0 A) (hA : aOK A) (hn : 0 ≤ n ∧ n < aW A) (hs : 0 ≤ s ∧ s < 6) : xCt Ω yX6_firstHeard cX6_firstHeard 5 (some .int) rm_X6_firstHeard [rf m, vi n, vi s] h (fun q h' => h = h' ∧ ∃ r, q = some (vi r) ∧ r = fh A s n) xNo := by
  refine xCt_of (ini := false) (by decide +kernel) (Nat.le_of_ble_eq_true rfl) (fun q => absurd q (by decide)) ?_
  generalize hPR : (fun q h' => h = h' ∧ ∃ r, q = some (vi r) ∧ r = fh A s n : Option xV → xM → Prop) = PR
  have K0 : X Ω RX6 cX6_firstHeard 5 (some .int) false rm_X6_firstHeard PR xNo 0 0 0 [some (rf m), some (vi n), some (vi s), none, none] [] h := ?_
  exact K0
  obtain ⟨mSt, mB, mW, mWl, mWo, mCo, mHe⟩ := id hM
  obtain ⟨okB, okN, okWl, okS, okW, okM, okC, okH⟩ := id hA
  refine X.iconst dX6_firstHeard_0 (pc' := 1) rfl ?_
  refine X.istore_n (i := 3) (ls' := [some (rf m), some (vi n), some (vi s), some (vi ((-1))), none]) (hi := rfl) (hd := dX6_firstHeard_1) (by decide) rfl rfl (pc' := 2) rfl ?_
  refine X.aload_n (i := 0) rfl rfl dX6_firstHeard_2 (pc' := 3) rfl ?_
  refine X.getR fk_X6_8 xcl_6 dX6_firstHeard_3 hS.1 hS.2.1 (pc' := 6) rfl ?_
  refine X.iconst dX6_firstHeard_6 (pc' := 7) rfl ?_
  refine X.iald (x := aB A) dX6_firstHeard_7 hS.2.2.1 (by omega) (by omega) ⟨by omega, by omega⟩ (mI_at mB (by omega)) (pc' := 8) rfl (fun r1 => ?_)
  obtain ⟨r1a, r1b⟩ := r1
  refine X.iconst dX6_firstHeard_8 (pc' := 9) rfl ?_
  refine X.isub dX6_firstHeard_9 (pc' := 10) rfl ?_
  refine X.gen (fun b0 hb0 => ?_)
  refine X.istore (i := 4) (ls' := [some (rf m), some (vi n), some (vi s), some (vi ((-1))), some (vi b0)]) (hd := dX6_firstHeard_10) (by decide) rfl rfl (pc' := 12) rfl ?_
  have L12 : ∀ (n12 : Nat) (f : Int) (b : Int), (b + 1).toNat < n12 → (aAt A n - 1 ≤ b ∧ b < aB A ∧ f = fhF (aHe A s) n (b + 1) (aB A - (b + 1)).toNat) → X Ω RX6 cX6_firstHeard 5 (some .int) false rm_X6_firstHeard PR xNo 0 0 12 [some (rf m), some (vi n), some (vi s), some (vi f), some (vi b)] [] h := by
    intro n12
    induction n12 with
    | zero => intro f b hm _; exfalso; omega
    | succ n12 ih12 =>
      intro f b hm12 hinv
      obtain ⟨hb1, hb2, hf⟩ := hinv
      have okn := okW n (by omega) (by omega)
      refine X.iload (i := 4) rfl dX6_firstHeard_12 (pc' := 14) rfl ?_
      refine X.aload_n (i := 0) rfl rfl dX6_firstHeard_14 (pc' := 15) rfl ?_
      refine X.iload_n (i := 1) rfl rfl dX6_firstHeard_15 (pc' := 16) rfl ?_
      refine X.iconst dX6_firstHeard_16 (pc' := 17) rfl ?_
      refine X.callV (ci := 6) (a := m) (rm := rm_X6_part) (As := [vi n, vi 3]) (st := [vi b]) dX6_firstHeard_17 ck_X6_40 rfl (by decide) hS.1 rfl rfl ⟨Nat.le_of_ble_eq_true rfl, Nat.le_of_ble_eq_true rfl⟩ (Nat.le_of_ble_eq_true rfl) (Nat.le_of_ble_eq_true rfl) (Nat.le_of_ble_eq_true rfl) (pc' := 20) rfl (k_X6_part hS (by omega) (by omega)) (fun q2 hq2 eq2 => ?_) (fun _ _ x1 => x1.elim)
      obtain ⟨rfl, pt, rfl, hpt⟩ := eq2
      have hpt2 : pt = aAt A n := by rw [hpt]; exact mI_at (mWo n (by omega) (by omega)).2.2.2 (by omega)
      refine X.icmp_lt (tgt := 57) dX6_firstHeard_20 ⟨by omega, by omega⟩ ⟨by omega, by omega⟩ (by decide) (pc' := 23) rfl (fun c20 => ?_) (fun c20 => ?_)
      · refine X.iload_n (i := 3) rfl rfl dX6_firstHeard_57 (pc' := 58) rfl ?_
        refine X.iret dX6_firstHeard_58 (Or.inl rfl) (Nat.le_of_ble_eq_true rfl) (Nat.le_of_ble_eq_true rfl) ?_
        subst hPR
        have e : b + 1 = aAt A n := by omega
        refine ⟨rfl, _, rfl, ?_⟩
        rw [hf, e]
        rfl
      · refine X.aload_n (i := 0) rfl rfl dX6_firstHeard_23 (pc' := 24) rfl ?_
        refine X.getR fk_X6_8 xcl_6 dX6_firstHeard_24 hS.1 hS.2.1 (pc' := 27) rfl ?_
        refine X.sipush (by decide +kernel) dX6_firstHeard_27 (pc' := 30) rfl ?_
        refine X.sipush (by decide +kernel) dX6_firstHeard_30 (pc' := 33) rfl ?_
        refine X.iload_n (i := 2) rfl rfl dX6_firstHeard_33 (pc' := 34) rfl ?_
        refine X.imul dX6_firstHeard_34 (pc' := 35) rfl ?_
        refine X.iadd dX6_firstHeard_35 (pc' := 36) rfl ?_
        refine X.iload (i := 4) rfl dX6_firstHeard_36 (pc' := 38) rfl ?_
        refine X.iadd dX6_firstHeard_38 (pc' := 39) rfl ?_
        refine X.iald (x := aHe A s b) dX6_firstHeard_39 hS.2.2.1 (by omega) (by omega) ⟨by omega, by omega⟩ (mI_at (mHe s b (by omega) (by omega) (by omega) (by omega)) (by omega)) (pc' := 40) rfl (fun r3 => ?_)
        obtain ⟨r3a, r3b⟩ := r3
        have r3c := okH s b (by omega) (by omega) (by omega) (by omega)
        refine X.iload_n (i := 1) rfl rfl dX6_firstHeard_40 (pc' := 41) rfl ?_
        refine X.icmp_ne (tgt := 49) dX6_firstHeard_41 ⟨by omega, by omega⟩ ⟨by omega, by omega⟩ (by decide) (pc' := 44) rfl (fun c41 => ?_) (fun c41 => ?_)
        · refine X.iload_n (i := 3) rfl rfl dX6_firstHeard_49 (pc' := 50) rfl ?_
          refine X.istore_n (i := 3) (ls' := [some (rf m), some (vi n), some (vi s), some (vi f), some (vi b)]) (hi := rfl) (hd := dX6_firstHeard_50) (by decide) rfl rfl (pc' := 51) rfl ?_
          refine X.iinc (i := 4) (ls' := [some (rf m), some (vi n), some (vi s), some (vi f), some (vi (b + (-1)))]) dX6_firstHeard_51 rfl (by decide) rfl rfl (pc' := 54) rfl ?_
          refine X.goto (tgt := 12) dX6_firstHeard_54 (by decide) ?_
          refine ih12 f (b + (-1)) (by omega) ?_
          refine ⟨by omega, by omega, ?_⟩
          rw [show b + -1 + 1 = b by omega, fhF_dn hb2]
          rw [if_neg (by omega)]; exact hf
        · refine X.iload (i := 4) rfl dX6_firstHeard_44 (pc' := 46) rfl ?_
          refine X.goto (tgt := 50) dX6_firstHeard_46 (by decide) ?_
          refine X.istore_n (i := 3) (ls' := [some (rf m), some (vi n), some (vi s), some (vi b), some (vi b)]) (hi := rfl) (hd := dX6_firstHeard_50) (by decide) rfl rfl (pc' := 51) rfl ?_
          refine X.iinc (i := 4) (ls' := [some (rf m), some (vi n), some (vi s), some (vi b), some (vi (b + (-1)))]) dX6_firstHeard_51 rfl (by decide) rfl rfl (pc' := 54) rfl ?_
          refine X.goto (tgt := 12) dX6_firstHeard_54 (by decide) ?_
          refine ih12 b (b + (-1)) (by omega) ?_
          refine ⟨by omega, by omega, ?_⟩
          rw [show b + -1 + 1 = b by omega, fhF_dn hb2]
          rw [if_pos (by omega)]
  refine L12 _ ((-1)) b0 (Nat.lt_succ_self _) ?_
  have okn := okW n (by omega) (by omega)
  refine ⟨by omega, by omega, ?_⟩
  rw [show (aB A - (b0 + 1)).toNat = 0 by omega]
  rfl
set_option maxHeartbeats 4000000 in
set_option maxRecDepth 100000 in
theorem k_X6_hearers {Ω : xO} {h : xM} {m : Nat} {A : aS} {n : Int} (hS : MoS h m) (hM : RM h (m + 1) 0 A) (hA : aOK A) (hn : 0 ≤ n ∧ n < aW A) : xCt Ω yX6_hearers cX6_hearers 4 (some .int) rm_X6_hearers [rf m, vi n] h (fun q h' => h = h' ∧ ∃ r, q = some (vi r) ∧ r = mHe A n) xNo := by
  refine xCt_of (ini := false) (by decide +kernel) (Nat.le_of_ble_eq_true rfl) (fun q => absurd q (by decide)) ?_
  generalize hPR : (fun q h' => h = h' ∧ ∃ r, q = some (vi r) ∧ r = mHe A n : Option xV → xM → Prop) = PR
  have K0 : X Ω RX6 cX6_hearers 4 (some .int) false rm_X6_hearers PR xNo 0 0 0 [some (rf m), some (vi n), none, none] [] h := ?_
  exact K0
  obtain ⟨mSt, mB, mW, mWl, mWo, mCo, mHe⟩ := id hM
  obtain ⟨okB, okN, okWl, okS, okW, okM, okC, okH⟩ := id hA
  refine X.iconst dX6_hearers_0 (pc' := 1) rfl ?_
  refine X.istore_n (i := 2) (ls' := [some (rf m), some (vi n), some (vi 0), none]) (hi := rfl) (hd := dX6_hearers_1) (by decide) rfl rfl (pc' := 2) rfl ?_
  refine X.iconst dX6_hearers_2 (pc' := 3) rfl ?_
  refine X.istore_n (i := 3) (ls' := [some (rf m), some (vi n), some (vi 0), some (vi 0)]) (hi := rfl) (hd := dX6_hearers_3) (by decide) rfl rfl (pc' := 4) rfl ?_
  have L4 : ∀ (n4 : Nat) (c : Int) (t : Int), (6 - t).toNat < n4 → (0 ≤ t ∧ t ≤ 6 ∧ c = mkF (fun s => fh A s n ≠ -1) (fun _ => inferInstance) t.toNat) → X Ω RX6 cX6_hearers 4 (some .int) false rm_X6_hearers PR xNo 0 0 4 [some (rf m), some (vi n), some (vi c), some (vi t)] [] h := by
    intro n4
    induction n4 with
    | zero => intro c t hm _; exfalso; omega
    | succ n4 ih4 =>
      intro c t hm4 hinv
      obtain ⟨ht0, ht6, hc⟩ := hinv
      have hmr := mkF_rng (fun s => fh A s n ≠ -1) (fun _ => inferInstance) t.toNat
      rw [← hc] at hmr
      refine X.iload_n (i := 3) rfl rfl dX6_hearers_4 (pc' := 5) rfl ?_
      refine X.bipush (by decide +kernel) dX6_hearers_5 (pc' := 7) rfl ?_
      refine X.icmp_ge (tgt := 35) dX6_hearers_7 ⟨by omega, by omega⟩ ⟨by omega, by omega⟩ (by decide) (pc' := 10) rfl (fun c7 => ?_) (fun c7 => ?_)
      · refine X.iload_n (i := 2) rfl rfl dX6_hearers_35 (pc' := 36) rfl ?_
        refine X.iret dX6_hearers_36 (Or.inl rfl) (Nat.le_of_ble_eq_true rfl) (Nat.le_of_ble_eq_true rfl) ?_
        subst hPR
        have e : t = 6 := by omega
        subst e
        exact ⟨rfl, _, rfl, hc⟩
      · refine X.iload_n (i := 2) rfl rfl dX6_hearers_10 (pc' := 11) rfl ?_
        refine X.aload_n (i := 0) rfl rfl dX6_hearers_11 (pc' := 12) rfl ?_
        refine X.iload_n (i := 1) rfl rfl dX6_hearers_12 (pc' := 13) rfl ?_
        refine X.iload_n (i := 3) rfl rfl dX6_hearers_13 (pc' := 14) rfl ?_
        refine X.callV (ci := 6) (a := m) (rm := rm_X6_firstHeard) (As := [vi n, vi t]) (st := [vi c]) dX6_hearers_14 ck_X6_120 rfl (by decide) hS.1 rfl rfl ⟨Nat.le_of_ble_eq_true rfl, Nat.le_of_ble_eq_true rfl⟩ (Nat.le_of_ble_eq_true rfl) (Nat.le_of_ble_eq_true rfl) (Nat.le_of_ble_eq_true rfl) (pc' := 17) rfl (k_X6_firstHeard hS hM hA hn ⟨by omega, by omega⟩) (fun q1 hq1 eq1 => ?_) (fun _ _ x1 => x1.elim)
        obtain ⟨rfl, x, rfl, hx⟩ := eq1
        have hxr := fh_rng hA t n (by omega) (by omega) (by omega) (by omega)
        have okn := okW n (by omega) (by omega)
        refine X.if_lt (tgt := 26) dX6_hearers_17 ⟨by omega, by omega⟩ (by decide) (pc' := 20) rfl (fun c17 => ?_) (fun c17 => ?_)
        · refine X.iconst dX6_hearers_26 (pc' := 27) rfl ?_
          refine X.ior (z := c) x_or0 dX6_hearers_27 (pc' := 28) rfl ?_
          refine X.istore_n (i := 2) (ls' := [some (rf m), some (vi n), some (vi c), some (vi t)]) (hi := rfl) (hd := dX6_hearers_28) (by decide) rfl rfl (pc' := 29) rfl ?_
          refine X.iinc (i := 3) (ls' := [some (rf m), some (vi n), some (vi c), some (vi (t + 1))]) dX6_hearers_29 rfl (by decide) rfl rfl (pc' := 32) rfl ?_
          refine X.goto (tgt := 4) dX6_hearers_32 (by decide) ?_
          refine ih4 c (t + 1) (by omega) ?_
          exact ⟨by omega, by omega, mkF_out hc ht0 (by (try dsimp only); omega)⟩
        · refine X.iconst dX6_hearers_20 (pc' := 21) rfl ?_
          refine X.iload_n (i := 3) rfl rfl dX6_hearers_21 (pc' := 22) rfl ?_
          refine X.ishl (z := 2 ^ t.toNat) (x_shl ⟨by omega, by omega⟩) dX6_hearers_22 (pc' := 23) rfl ?_
          refine X.goto (tgt := 27) dX6_hearers_23 (by decide) ?_
          refine X.ior (z := c + 2 ^ t.toNat) (x_or ⟨by omega, by omega⟩ hmr.1 (by rw [hc]; exact (mkF_rng _ _ t.toNat).2)) dX6_hearers_27 (pc' := 28) rfl ?_
          refine X.gen (fun x2 hx2 => ?_)
          refine X.istore_n (i := 2) (ls' := [some (rf m), some (vi n), some (vi x2), some (vi t)]) (hi := rfl) (hd := dX6_hearers_28) (by decide) rfl rfl (pc' := 29) rfl ?_
          refine X.iinc (i := 3) (ls' := [some (rf m), some (vi n), some (vi x2), some (vi (t + 1))]) dX6_hearers_29 rfl (by decide) rfl rfl (pc' := 32) rfl ?_
          refine X.goto (tgt := 4) dX6_hearers_32 (by decide) ?_
          refine ih4 x2 (t + 1) (by omega) ?_
          refine ⟨by omega, by omega, ?_⟩
          have := mkF_in hc ht0 (P := fun s => fh A s n ≠ -1) (by (try dsimp only); omega)
          omega
  refine L4 _ 0 0 (Nat.lt_succ_self _) ?_
  exact ⟨by omega, by omega, rfl⟩
set_option maxHeartbeats 4000000 in
set_option maxRecDepth 100000 in
theorem k_X6_reached {Ω : xO} {h : xM} {m : Nat} {A : aS} {n : Int} (hS : MoS h m) (hM : RM h (m + 1) 0 A) (hA : aOK A) (hn : 0 ≤ n ∧ n < aW A) : xCt Ω yX6_reached cX6_reached 4 (some .int) rm_X6_reached [rf m, vi n] h (fun q h' => h = h' ∧ ∃ r, q = some (vi r) ∧ r = mCo A n) xNo := by
  refine xCt_of (ini := false) (by decide +kernel) (Nat.le_of_ble_eq_true rfl) (fun q => absurd q (by decide)) ?_
  generalize hPR : (fun q h' => h = h' ∧ ∃ r, q = some (vi r) ∧ r = mCo A n : Option xV → xM → Prop) = PR
  have K0 : X Ω RX6 cX6_reached 4 (some .int) false rm_X6_reached PR xNo 0 0 0 [some (rf m), some (vi n), none, none] [] h := ?_
  exact K0
  obtain ⟨mSt, mB, mW, mWl, mWo, mCo, mHe⟩ := id hM
  obtain ⟨okB, okN, okWl, okS, okW, okM, okC, okH⟩ := id hA
  refine X.iconst dX6_reached_0 (pc' := 1) rfl ?_
  refine X.istore_n (i := 2) (ls' := [some (rf m), some (vi n), some (vi 0), none]) (hi := rfl) (hd := dX6_reached_1) (by decide) rfl rfl (pc' := 2) rfl ?_
  refine X.iconst dX6_reached_2 (pc' := 3) rfl ?_
  refine X.istore_n (i := 3) (ls' := [some (rf m), some (vi n), some (vi 0), some (vi 0)]) (hi := rfl) (hd := dX6_reached_3) (by decide) rfl rfl (pc' := 4) rfl ?_
  have L4 : ∀ (n4 : Nat) (c : Int) (t : Int), (6 - t).toNat < n4 → (0 ≤ t ∧ t ≤ 6 ∧ c = mkF (fun s => aCo A s n ≠ -1) (fun _ => inferInstance) t.toNat) → X Ω RX6 cX6_reached 4 (some .int) false rm_X6_reached PR xNo 0 0 4 [some (rf m), some (vi n), some (vi c), some (vi t)] [] h := by
    intro n4
    induction n4 with
    | zero => intro c t hm _; exfalso; omega
    | succ n4 ih4 =>
      intro c t hm4 hinv
      obtain ⟨ht0, ht6, hc⟩ := hinv
      have hmr := mkF_rng (fun s => aCo A s n ≠ -1) (fun _ => inferInstance) t.toNat
      rw [← hc] at hmr
      refine X.iload_n (i := 3) rfl rfl dX6_reached_4 (pc' := 5) rfl ?_
      refine X.bipush (by decide +kernel) dX6_reached_5 (pc' := 7) rfl ?_
      refine X.icmp_ge (tgt := 37) dX6_reached_7 ⟨by omega, by omega⟩ ⟨by omega, by omega⟩ (by decide) (pc' := 10) rfl (fun c7 => ?_) (fun c7 => ?_)
      · refine X.iload_n (i := 2) rfl rfl dX6_reached_37 (pc' := 38) rfl ?_
        refine X.iret dX6_reached_38 (Or.inl rfl) (Nat.le_of_ble_eq_true rfl) (Nat.le_of_ble_eq_true rfl) ?_
        subst hPR
        have e : t = 6 := by omega
        subst e
        exact ⟨rfl, _, rfl, hc⟩
      · refine X.iload_n (i := 2) rfl rfl dX6_reached_10 (pc' := 11) rfl ?_
        refine X.aload_n (i := 0) rfl rfl dX6_reached_11 (pc' := 12) rfl ?_
        refine X.iload_n (i := 1) rfl rfl dX6_reached_12 (pc' := 13) rfl ?_
        refine X.iconst dX6_reached_13 (pc' := 14) rfl ?_
        refine X.iload_n (i := 3) rfl rfl dX6_reached_14 (pc' := 15) rfl ?_
        refine X.iadd dX6_reached_15 (pc' := 16) rfl ?_
        refine X.callV (ci := 6) (a := m) (rm := rm_X6_part) (As := [vi n, vi (4 + t)]) (st := [vi c]) dX6_reached_16 ck_X6_40 rfl (by decide) hS.1 rfl rfl ⟨Nat.le_of_ble_eq_true rfl, Nat.le_of_ble_eq_true rfl⟩ (Nat.le_of_ble_eq_true rfl) (Nat.le_of_ble_eq_true rfl) (Nat.le_of_ble_eq_true rfl) (pc' := 19) rfl (k_X6_part hS (by omega) (by omega)) (fun q1 hq1 eq1 => ?_) (fun _ _ x1 => x1.elim)
        obtain ⟨rfl, x, rfl, hx⟩ := eq1
        have hx2 : x = aCo A t n := by rw [hx]; exact mI_at (mCo t n (by omega) (by omega) (by omega) (by omega)) (by omega)
        have okc := okC t n (by omega) (by omega) (by omega) (by omega)
        have okn := okW n (by omega) (by omega)
        refine X.if_lt (tgt := 28) dX6_reached_19 ⟨by omega, by omega⟩ (by decide) (pc' := 22) rfl (fun c19 => ?_) (fun c19 => ?_)
        · refine X.iconst dX6_reached_28 (pc' := 29) rfl ?_
          refine X.ior (z := c) x_or0 dX6_reached_29 (pc' := 30) rfl ?_
          refine X.istore_n (i := 2) (ls' := [some (rf m), some (vi n), some (vi c), some (vi t)]) (hi := rfl) (hd := dX6_reached_30) (by decide) rfl rfl (pc' := 31) rfl ?_
          refine X.iinc (i := 3) (ls' := [some (rf m), some (vi n), some (vi c), some (vi (t + 1))]) dX6_reached_31 rfl (by decide) rfl rfl (pc' := 34) rfl ?_
          refine X.goto (tgt := 4) dX6_reached_34 (by decide) ?_
          refine ih4 c (t + 1) (by omega) ?_
          exact ⟨by omega, by omega, mkF_out hc ht0 (by (try dsimp only); omega)⟩
        · refine X.iconst dX6_reached_22 (pc' := 23) rfl ?_
          refine X.iload_n (i := 3) rfl rfl dX6_reached_23 (pc' := 24) rfl ?_
          refine X.ishl (z := 2 ^ t.toNat) (x_shl ⟨by omega, by omega⟩) dX6_reached_24 (pc' := 25) rfl ?_
          refine X.goto (tgt := 29) dX6_reached_25 (by decide) ?_
          refine X.ior (z := c + 2 ^ t.toNat) (x_or ⟨by omega, by omega⟩ hmr.1 (by rw [hc]; exact (mkF_rng _ _ t.toNat).2)) dX6_reached_29 (pc' := 30) rfl ?_
          refine X.gen (fun x2 hx2 => ?_)
          refine X.istore_n (i := 2) (ls' := [some (rf m), some (vi n), some (vi x2), some (vi t)]) (hi := rfl) (hd := dX6_reached_30) (by decide) rfl rfl (pc' := 31) rfl ?_
          refine X.iinc (i := 3) (ls' := [some (rf m), some (vi n), some (vi x2), some (vi (t + 1))]) dX6_reached_31 rfl (by decide) rfl rfl (pc' := 34) rfl ?_
          refine X.goto (tgt := 4) dX6_reached_34 (by decide) ?_
          refine ih4 x2 (t + 1) (by omega) ?_
          refine ⟨by omega, by omega, ?_⟩
          have := mkF_in hc ht0 (P := fun s => aCo A s n ≠ -1) (by (try dsimp only); omega)
          omega
  refine L4 _ 0 0 (Nat.lt_succ_self _) ?_
  exact ⟨by omega, by omega, rfl⟩
