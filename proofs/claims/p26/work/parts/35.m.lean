set_option maxHeartbeats 4000000 in
set_option maxRecDepth 100000 in
theorem k_X3_maskOf {Ω : xO} {h : xM} {a c : Nat} {n : Int} {f : Int → Int} (hc : mT h c = some (13, 6) ∧ (∀ s : Int, 0 ≤ s → s < 6 → mR h c s = some (c + 1 + s.toNat) ∧ mT h (c + 1 + s.toNat) = some (10, 200))) (hn : 0 ≤ n ∧ n < 200) (hv : ∀ s : Int, 0 ≤ s → s < 6 → mI h (c + 1 + s.toNat) n = f s) : xCt Ω yX3_maskOf cX3_maskOf 5 (some .int) rm_X3_maskOf [rf a, rf c, vi n] h (fun q h' => h = h' ∧ ∃ r, q = some (vi r) ∧ r = mkF (fun s => f s ≠ -1) (fun _ => inferInstance) 6) xNo := by
  refine xCt_of (ini := false) (by decide +kernel) (Nat.le_of_ble_eq_true rfl) (fun q => absurd q (by decide)) ?_
  generalize hPR : (fun q h' => h = h' ∧ ∃ r, q = some (vi r) ∧ r = mkF (fun s => f s ≠ -1) (fun _ => inferInstance) 6 : Option xV → xM → Prop) = PR
  have K0 : X Ω RX3 cX3_maskOf 5 (some .int) false rm_X3_maskOf PR xNo 0 0 0 [some (rf a), some (rf c), some (vi n), none, none] [] h := ?_
  exact K0
  refine X.iconst dX3_maskOf_0 (pc' := 1) rfl ?_
  refine X.istore_n (i := 3) (ls' := [some (rf a), some (rf c), some (vi n), some (vi 0), none]) (hi := rfl) (hd := dX3_maskOf_1) (by decide) rfl rfl (pc' := 2) rfl ?_
  refine X.iconst dX3_maskOf_2 (pc' := 3) rfl ?_
  refine X.istore (i := 4) (ls' := [some (rf a), some (rf c), some (vi n), some (vi 0), some (vi 0)]) (hd := dX3_maskOf_3) (by decide) rfl rfl (pc' := 5) rfl ?_
  have L5 : ∀ (n5 : Nat) (m : Int) (t : Int), (6 - t).toNat < n5 → (0 ≤ t ∧ t ≤ 6 ∧ m = mkF (fun s => f s ≠ -1) (fun _ => inferInstance) t.toNat) → X Ω RX3 cX3_maskOf 5 (some .int) false rm_X3_maskOf PR xNo 0 0 5 [some (rf a), some (rf c), some (vi n), some (vi m), some (vi t)] [] h := by
    intro n5
    induction n5 with
    | zero => intro m t hm _; exfalso; omega
    | succ n5 ih5 =>
      intro m t hm5 hinv
      obtain ⟨ht0, ht6, hm⟩ := hinv
      have hmr := mkF_rng (fun s => f s ≠ -1) (fun _ => inferInstance) t.toNat
      rw [← hm] at hmr
      refine X.iload (i := 4) rfl dX3_maskOf_5 (pc' := 7) rfl ?_
      refine X.bipush (by decide +kernel) dX3_maskOf_7 (pc' := 9) rfl ?_
      refine X.icmp_ge (tgt := 35) dX3_maskOf_9 ⟨by omega, by omega⟩ ⟨by omega, by omega⟩ (by decide) (pc' := 12) rfl (fun c9 => ?_) (fun c9 => ?_)
      · refine X.iload_n (i := 3) rfl rfl dX3_maskOf_35 (pc' := 36) rfl ?_
        refine X.iret dX3_maskOf_36 (Or.inl rfl) (Nat.le_of_ble_eq_true rfl) (Nat.le_of_ble_eq_true rfl) ?_
        subst hPR
        have e : t = 6 := by omega
        subst e
        exact ⟨rfl, _, rfl, hm⟩
      · refine X.aload_n (i := 1) rfl rfl dX3_maskOf_12 (pc' := 13) rfl ?_
        refine X.iload (i := 4) rfl dX3_maskOf_13 (pc' := 15) rfl ?_
        refine X.aald13 dX3_maskOf_15 hc.1 (by omega) (by omega) ⟨by omega, by omega⟩ (hc.2 (t) (by omega) (by omega)).1 (pc' := 16) rfl ?_
        refine X.iload_n (i := 2) rfl rfl dX3_maskOf_16 (pc' := 17) rfl ?_
        refine X.iald (x := f t) dX3_maskOf_17 (hc.2 (t) (by omega) (by omega)).2 (by omega) (by omega) ⟨by omega, by omega⟩ (hv t (by omega) (by omega)) (pc' := 18) rfl (fun r1 => ?_)
        obtain ⟨r1a, r1b⟩ := r1
        refine X.iconst dX3_maskOf_18 (pc' := 19) rfl ?_
        refine X.icmp_eq (tgt := 29) dX3_maskOf_19 ⟨by omega, by omega⟩ ⟨by omega, by omega⟩ (by decide) (pc' := 22) rfl (fun c19 => ?_) (fun c19 => ?_)
        · refine X.iinc (i := 4) (ls' := [some (rf a), some (rf c), some (vi n), some (vi m), some (vi (t + 1))]) dX3_maskOf_29 rfl (by decide) rfl rfl (pc' := 32) rfl ?_
          refine X.goto (tgt := 5) dX3_maskOf_32 (by decide) ?_
          refine ih5 m (t + 1) (by omega) ?_
          exact ⟨by omega, by omega, mkF_out hm ht0 (by (try dsimp only); omega)⟩
        · refine X.iload_n (i := 3) rfl rfl dX3_maskOf_22 (pc' := 23) rfl ?_
          refine X.iconst dX3_maskOf_23 (pc' := 24) rfl ?_
          refine X.iload (i := 4) rfl dX3_maskOf_24 (pc' := 26) rfl ?_
          refine X.ishl (z := 2 ^ t.toNat) (x_shl ⟨by omega, by omega⟩) dX3_maskOf_26 (pc' := 27) rfl ?_
          refine X.ior (z := m + 2 ^ t.toNat) (x_or ⟨by omega, by omega⟩ hmr.1 (by rw [hm]; exact (mkF_rng _ _ t.toNat).2)) dX3_maskOf_27 (pc' := 28) rfl ?_
          refine X.gen (fun x2 hx2 => ?_)
          refine X.istore_n (i := 3) (ls' := [some (rf a), some (rf c), some (vi n), some (vi x2), some (vi t)]) (hi := rfl) (hd := dX3_maskOf_28) (by decide) rfl rfl (pc' := 29) rfl ?_
          refine X.iinc (i := 4) (ls' := [some (rf a), some (rf c), some (vi n), some (vi x2), some (vi (t + 1))]) dX3_maskOf_29 rfl (by decide) rfl rfl (pc' := 32) rfl ?_
          refine X.goto (tgt := 5) dX3_maskOf_32 (by decide) ?_
          refine ih5 x2 (t + 1) (by omega) ?_
          refine ⟨by omega, by omega, ?_⟩
          have := mkF_in hm ht0 (P := fun s => f s ≠ -1) (by (try dsimp only); omega)
          omega
  refine L5 _ 0 0 (Nat.lt_succ_self _) ?_
  exact ⟨by omega, by omega, rfl⟩
set_option maxHeartbeats 4000000 in
set_option maxRecDepth 100000 in
theorem k_X3_heardBeats {Ω : xO} {h : xM} {a b : Nat} {A : aS} {s : Int} (hP : RpS h a b) (hR : RC h b A) (hs : 0 ≤ s ∧ s < 6) : xCt Ω yX3_heardBeats cX3_heardBeats 4 (some .int) rm_X3_heardBeats [rf a, vi s] h (fun q h' => h = h' ∧ ∃ r, q = some (vi r) ∧ r = hBt A s) xNo := by
  refine xCt_of (ini := false) (by decide +kernel) (Nat.le_of_ble_eq_true rfl) (fun q => absurd q (by decide)) ?_
  generalize hPR : (fun q h' => h = h' ∧ ∃ r, q = some (vi r) ∧ r = hBt A s : Option xV → xM → Prop) = PR
  have K0 : X Ω RX3 cX3_heardBeats 4 (some .int) false rm_X3_heardBeats PR xNo 0 0 0 [some (rf a), some (vi s), none, none] [] h := ?_
  exact K0
  have okA : aOK A := hR.1.2.1
  obtain ⟨okB, okN, okWl, okS, okW, okM, okC, okH⟩ := id hR.1.2.1
  refine X.iconst dX3_heardBeats_0 (pc' := 1) rfl ?_
  refine X.istore_n (i := 2) (ls' := [some (rf a), some (vi s), some (vi 0), none]) (hi := rfl) (hd := dX3_heardBeats_1) (by decide) rfl rfl (pc' := 2) rfl ?_
  refine X.iconst dX3_heardBeats_2 (pc' := 3) rfl ?_
  refine X.istore_n (i := 3) (ls' := [some (rf a), some (vi s), some (vi 0), some (vi 0)]) (hi := rfl) (hd := dX3_heardBeats_3) (by decide) rfl rfl (pc' := 4) rfl ?_
  have L4 : ∀ (n4 : Nat) (c : Int) (k : Int), (aB A - k).toNat < n4 → (0 ≤ k ∧ k ≤ aB A ∧ c = cnt (fun k => aHe A s k ≠ -1) (fun _ => inferInstance) k.toNat) → X Ω RX3 cX3_heardBeats 4 (some .int) false rm_X3_heardBeats PR xNo 0 0 4 [some (rf a), some (vi s), some (vi c), some (vi k)] [] h := by
    intro n4
    induction n4 with
    | zero => intro c k hm _; exfalso; omega
    | succ n4 ih4 =>
      intro c k hm4 hinv
      obtain ⟨hk0, hkn, hc⟩ := hinv
      refine X.iload_n (i := 3) rfl rfl dX3_heardBeats_4 (pc' := 5) rfl ?_
      refine X.aload_n (i := 0) rfl rfl dX3_heardBeats_5 (pc' := 6) rfl ?_
      refine X.getR fk_X3_9 xcl_3 dX3_heardBeats_6 hP.1 hP.2 (pc' := 9) rfl ?_
      refine X.getI (x := aB A) fk_X3_61 xcl_0 dX3_heardBeats_9 (by decide) hR.1.1.1 hR.1.2.2.1 (pc' := 12) rfl (fun r1 => ?_)
      obtain ⟨r1a, r1b⟩ := r1
      refine X.icmp_ge (tgt := 39) dX3_heardBeats_12 ⟨by omega, by omega⟩ ⟨by omega, by omega⟩ (by decide) (pc' := 15) rfl (fun c12 => ?_) (fun c12 => ?_)
      · refine X.iload_n (i := 2) rfl rfl dX3_heardBeats_39 (pc' := 40) rfl ?_
        refine X.iret dX3_heardBeats_40 (Or.inl rfl) (Nat.le_of_ble_eq_true rfl) (Nat.le_of_ble_eq_true rfl) ?_
        subst hPR
        have e : k = aB A := by omega
        subst e
        exact ⟨rfl, _, rfl, hc⟩
      · refine X.aload_n (i := 0) rfl rfl dX3_heardBeats_15 (pc' := 16) rfl ?_
        refine X.getR fk_X3_9 xcl_3 dX3_heardBeats_16 hP.1 hP.2 (pc' := 19) rfl ?_
        refine X.getR fk_X3_41 xcl_0 dX3_heardBeats_19 hR.1.1.1 hR.1.1.2.2.2.2.2.2.2.2.2.1.1 (pc' := 22) rfl ?_
        refine X.iload_n (i := 1) rfl rfl dX3_heardBeats_22 (pc' := 23) rfl ?_
        refine X.aald13 dX3_heardBeats_23 hR.1.1.2.2.2.2.2.2.2.2.2.1.2 (by omega) (by omega) ⟨by omega, by omega⟩ (hR.1.1.2.2.2.2.2.2.2.2.2.2.2.2.2 (s) (by omega) (by omega)).1 (pc' := 24) rfl ?_
        refine X.iload_n (i := 3) rfl rfl dX3_heardBeats_24 (pc' := 25) rfl ?_
        refine X.iald (x := aHe A s k) dX3_heardBeats_25 (hR.1.1.2.2.2.2.2.2.2.2.2.2.2.2.2 (s) (by omega) (by omega)).2 (by omega) (by omega) ⟨by omega, by omega⟩ (hR.2.2.1 s k (by omega) (by omega) (by omega) (by omega)) (pc' := 26) rfl (fun r2 => ?_)
        obtain ⟨r2a, r2b⟩ := r2
        have r2c := hR.1.2.1.2.2.2.2.2.2.2 s k (by omega) (by omega) (by omega) (by omega)
        refine X.iconst dX3_heardBeats_26 (pc' := 27) rfl ?_
        refine X.icmp_eq (tgt := 33) dX3_heardBeats_27 ⟨by omega, by omega⟩ ⟨by omega, by omega⟩ (by decide) (pc' := 30) rfl (fun c27 => ?_) (fun c27 => ?_)
        · refine X.iinc (i := 3) (ls' := [some (rf a), some (vi s), some (vi c), some (vi (k + 1))]) dX3_heardBeats_33 rfl (by decide) rfl rfl (pc' := 36) rfl ?_
          refine X.goto (tgt := 4) dX3_heardBeats_36 (by decide) ?_
          refine ih4 c (k + 1) (by omega) ?_
          exact ⟨by omega, by omega, cnt_out hc hk0 (by (try dsimp only); omega)⟩
        · refine X.iinc (i := 2) (ls' := [some (rf a), some (vi s), some (vi (c + 1)), some (vi k)]) dX3_heardBeats_30 rfl (by decide) rfl rfl (pc' := 33) rfl ?_
          refine X.iinc (i := 3) (ls' := [some (rf a), some (vi s), some (vi (c + 1)), some (vi (k + 1))]) dX3_heardBeats_33 rfl (by decide) rfl rfl (pc' := 36) rfl ?_
          refine X.goto (tgt := 4) dX3_heardBeats_36 (by decide) ?_
          refine ih4 (c + 1) (k + 1) (by omega) ?_
          exact ⟨by omega, by omega, cnt_in hc hk0 (by (try dsimp only); omega)⟩
  refine L4 _ 0 0 (Nat.lt_succ_self _) ?_
  exact ⟨by omega, by omega, rfl⟩
set_option maxHeartbeats 4000000 in
set_option maxRecDepth 100000 in
theorem k_X3_heardWordsByBeats {Ω : xO} {h : xM} {a b : Nat} {A : aS} {s : Int} (hP : RpS h a b) (hR : RC h b A) (hs : 0 ≤ s ∧ s < 6) : xCt Ω yX3_heardWordsByBeats cX3_heardWordsByBeats 5 (some .int) rm_X3_heardWordsByBeats [rf a, vi s] h (fun q h' => h = h' ∧ ∃ r, q = some (vi r) ∧ r = hWb A s) xNo := by
  refine xCt_of (ini := false) (by decide +kernel) (Nat.le_of_ble_eq_true rfl) (fun q => absurd q (by decide)) ?_
  generalize hPR : (fun q h' => h = h' ∧ ∃ r, q = some (vi r) ∧ r = hWb A s : Option xV → xM → Prop) = PR
  have K0 : X Ω RX3 cX3_heardWordsByBeats 5 (some .int) false rm_X3_heardWordsByBeats PR xNo 0 0 0 [some (rf a), some (vi s), none, none, none] [] h := ?_
  exact K0
  have okA : aOK A := hR.1.2.1
  obtain ⟨okB, okN, okWl, okS, okW, okM, okC, okH⟩ := id hR.1.2.1
  refine X.iconst dX3_heardWordsByBeats_0 (pc' := 1) rfl ?_
  refine X.istore_n (i := 2) (ls' := [some (rf a), some (vi s), some (vi 0), none, none]) (hi := rfl) (hd := dX3_heardWordsByBeats_1) (by decide) rfl rfl (pc' := 2) rfl ?_
  refine X.iconst dX3_heardWordsByBeats_2 (pc' := 3) rfl ?_
  refine X.istore_n (i := 3) (ls' := [some (rf a), some (vi s), some (vi 0), some (vi 0), none]) (hi := rfl) (hd := dX3_heardWordsByBeats_3) (by decide) rfl rfl (pc' := 4) rfl ?_
  have L4 : ∀ (n4 : Nat) (c : Int) (k : Int), (aB A - k).toNat < n4 → (0 ≤ k ∧ k ≤ aB A ∧ c = cnt (fun k => aHe A s k ≠ -1 ∧ fh A s (aHe A s k) = k) (fun _ => inferInstance) k.toNat) → X Ω RX3 cX3_heardWordsByBeats 5 (some .int) false rm_X3_heardWordsByBeats PR xNo 0 0 4 [some (rf a), some (vi s), some (vi c), some (vi k), none] [] h := by
    intro n4
    induction n4 with
    | zero => intro c k hm _; exfalso; omega
    | succ n4 ih4 =>
      intro c k hm4 hinv
      obtain ⟨hk0, hkn, hc⟩ := hinv
      refine X.iload_n (i := 3) rfl rfl dX3_heardWordsByBeats_4 (pc' := 5) rfl ?_
      refine X.aload_n (i := 0) rfl rfl dX3_heardWordsByBeats_5 (pc' := 6) rfl ?_
      refine X.getR fk_X3_9 xcl_3 dX3_heardWordsByBeats_6 hP.1 hP.2 (pc' := 9) rfl ?_
      refine X.getI (x := aB A) fk_X3_61 xcl_0 dX3_heardWordsByBeats_9 (by decide) hR.1.1.1 hR.1.2.2.1 (pc' := 12) rfl (fun r1 => ?_)
      obtain ⟨r1a, r1b⟩ := r1
      refine X.icmp_ge (tgt := 59) dX3_heardWordsByBeats_12 ⟨by omega, by omega⟩ ⟨by omega, by omega⟩ (by decide) (pc' := 15) rfl (fun c12 => ?_) (fun c12 => ?_)
      · refine X.iload_n (i := 2) rfl rfl dX3_heardWordsByBeats_59 (pc' := 60) rfl ?_
        refine X.iret dX3_heardWordsByBeats_60 (Or.inl rfl) (Nat.le_of_ble_eq_true rfl) (Nat.le_of_ble_eq_true rfl) ?_
        subst hPR
        have e : k = aB A := by omega
        subst e
        exact ⟨rfl, _, rfl, hc⟩
      · refine X.aload_n (i := 0) rfl rfl dX3_heardWordsByBeats_15 (pc' := 16) rfl ?_
        refine X.getR fk_X3_9 xcl_3 dX3_heardWordsByBeats_16 hP.1 hP.2 (pc' := 19) rfl ?_
        refine X.getR fk_X3_41 xcl_0 dX3_heardWordsByBeats_19 hR.1.1.1 hR.1.1.2.2.2.2.2.2.2.2.2.1.1 (pc' := 22) rfl ?_
        refine X.iload_n (i := 1) rfl rfl dX3_heardWordsByBeats_22 (pc' := 23) rfl ?_
        refine X.aald13 dX3_heardWordsByBeats_23 hR.1.1.2.2.2.2.2.2.2.2.2.1.2 (by omega) (by omega) ⟨by omega, by omega⟩ (hR.1.1.2.2.2.2.2.2.2.2.2.2.2.2.2 (s) (by omega) (by omega)).1 (pc' := 24) rfl ?_
        refine X.iload_n (i := 3) rfl rfl dX3_heardWordsByBeats_24 (pc' := 25) rfl ?_
        refine X.iald (x := aHe A s k) dX3_heardWordsByBeats_25 (hR.1.1.2.2.2.2.2.2.2.2.2.2.2.2.2 (s) (by omega) (by omega)).2 (by omega) (by omega) ⟨by omega, by omega⟩ (hR.2.2.1 s k (by omega) (by omega) (by omega) (by omega)) (pc' := 26) rfl (fun r2 => ?_)
        obtain ⟨r2a, r2b⟩ := r2
        have r2c := hR.1.2.1.2.2.2.2.2.2.2 s k (by omega) (by omega) (by omega) (by omega)
        refine X.gen (fun x hx => ?_)
        refine X.istore (i := 4) (ls' := [some (rf a), some (vi s), some (vi c), some (vi k), some (vi x)]) (hd := dX3_heardWordsByBeats_26) (by decide) rfl rfl (pc' := 28) rfl ?_
        refine X.iload (i := 4) rfl dX3_heardWordsByBeats_28 (pc' := 30) rfl ?_
        refine X.iconst dX3_heardWordsByBeats_30 (pc' := 31) rfl ?_
        refine X.icmp_eq (tgt := 53) dX3_heardWordsByBeats_31 ⟨by omega, by omega⟩ ⟨by omega, by omega⟩ (by decide) (pc' := 34) rfl (fun c31 => ?_) (fun c31 => ?_)
        · refine X.iinc (i := 3) (ls' := [some (rf a), some (vi s), some (vi c), some (vi (k + 1)), some (vi x)]) dX3_heardWordsByBeats_53 rfl (by decide) rfl rfl (pc' := 56) rfl ?_
          refine X.goto (tgt := 4) dX3_heardWordsByBeats_56 (by decide) ?_
          refine X.mask (bs := [true, true, true, true, false]) (ls' := [some (rf a), some (vi s), some (vi c), some (vi (k + 1)), none]) rfl ?_
          refine ih4 c (k + 1) (by omega) ?_
          subst hx
          exact ⟨by omega, by omega, cnt_out hc hk0 (by (try dsimp only); omega)⟩
        · refine X.aload_n (i := 0) rfl rfl dX3_heardWordsByBeats_34 (pc' := 35) rfl ?_
          refine X.getR fk_X3_9 xcl_3 dX3_heardWordsByBeats_35 hP.1 hP.2 (pc' := 38) rfl ?_
          refine X.getR fk_X3_38 xcl_0 dX3_heardWordsByBeats_38 hR.1.1.1 hR.1.1.2.2.2.2.2.2.2.2.1.1 (pc' := 41) rfl ?_
          refine X.iload_n (i := 1) rfl rfl dX3_heardWordsByBeats_41 (pc' := 42) rfl ?_
          refine X.aald13 dX3_heardWordsByBeats_42 hR.1.1.2.2.2.2.2.2.2.2.1.2 (by omega) (by omega) ⟨by omega, by omega⟩ (hR.1.1.2.2.2.2.2.2.2.2.2.2.2.2.1 (s) (by omega) (by omega)).1 (pc' := 43) rfl ?_
          refine X.iload (i := 4) rfl dX3_heardWordsByBeats_43 (pc' := 45) rfl ?_
          refine X.iald (x := fh A s x) dX3_heardWordsByBeats_45 (hR.1.1.2.2.2.2.2.2.2.2.2.2.2.2.1 (s) (by omega) (by omega)).2 (by omega) (by omega) ⟨by omega, by omega⟩ (hR.2.1 s x (by omega) (by omega) (by omega) (by omega)) (pc' := 46) rfl (fun r3 => ?_)
          obtain ⟨r3a, r3b⟩ := r3
          have r3c := fh_rng hR.1.2.1 s x (by omega) (by omega) (by omega) (by omega)
          refine X.iload_n (i := 3) rfl rfl dX3_heardWordsByBeats_46 (pc' := 47) rfl ?_
          refine X.icmp_ne (tgt := 53) dX3_heardWordsByBeats_47 ⟨by omega, by omega⟩ ⟨by omega, by omega⟩ (by decide) (pc' := 50) rfl (fun c47 => ?_) (fun c47 => ?_)
          · refine X.iinc (i := 3) (ls' := [some (rf a), some (vi s), some (vi c), some (vi (k + 1)), some (vi x)]) dX3_heardWordsByBeats_53 rfl (by decide) rfl rfl (pc' := 56) rfl ?_
            refine X.goto (tgt := 4) dX3_heardWordsByBeats_56 (by decide) ?_
            refine X.mask (bs := [true, true, true, true, false]) (ls' := [some (rf a), some (vi s), some (vi c), some (vi (k + 1)), none]) rfl ?_
            refine ih4 c (k + 1) (by omega) ?_
            subst hx
            exact ⟨by omega, by omega, cnt_out hc hk0 (by (try dsimp only); omega)⟩
          · refine X.iinc (i := 2) (ls' := [some (rf a), some (vi s), some (vi (c + 1)), some (vi k), some (vi x)]) dX3_heardWordsByBeats_50 rfl (by decide) rfl rfl (pc' := 53) rfl ?_
            refine X.iinc (i := 3) (ls' := [some (rf a), some (vi s), some (vi (c + 1)), some (vi (k + 1)), some (vi x)]) dX3_heardWordsByBeats_53 rfl (by decide) rfl rfl (pc' := 56) rfl ?_
            refine X.goto (tgt := 4) dX3_heardWordsByBeats_56 (by decide) ?_
            refine X.mask (bs := [true, true, true, true, false]) (ls' := [some (rf a), some (vi s), some (vi (c + 1)), some (vi (k + 1)), none]) rfl ?_
            refine ih4 (c + 1) (k + 1) (by omega) ?_
            subst hx
            exact ⟨by omega, by omega, cnt_in hc hk0 (by (try dsimp only); omega)⟩
  refine L4 _ 0 0 (Nat.lt_succ_self _) ?_
  exact ⟨by omega, by omega, rfl⟩
set_option maxHeartbeats 4000000 in
set_option maxRecDepth 100000 in
theorem k_X3_heardWordsByWords {Ω : xO} {h : xM} {a b : Nat} {A : aS} {s : Int} (hP : RpS h a b) (hR : RC h b A) (hs : 0 ≤ s ∧ s < 6) : xCt Ω yX3_heardWordsByWords cX3_heardWordsByWords 4 (some .int) rm_X3_heardWordsByWords [rf a, vi s] h (fun q h' => h = h' ∧ ∃ r, q = some (vi r) ∧ r = hWd A s) xNo := by
  refine xCt_of (ini := false) (by decide +kernel) (Nat.le_of_ble_eq_true rfl) (fun q => absurd q (by decide)) ?_
  generalize hPR : (fun q h' => h = h' ∧ ∃ r, q = some (vi r) ∧ r = hWd A s : Option xV → xM → Prop) = PR
  have K0 : X Ω RX3 cX3_heardWordsByWords 4 (some .int) false rm_X3_heardWordsByWords PR xNo 0 0 0 [some (rf a), some (vi s), none, none] [] h := ?_
  exact K0
  have okA : aOK A := hR.1.2.1
  obtain ⟨okB, okN, okWl, okS, okW, okM, okC, okH⟩ := id hR.1.2.1
  refine X.iconst dX3_heardWordsByWords_0 (pc' := 1) rfl ?_
  refine X.istore_n (i := 2) (ls' := [some (rf a), some (vi s), some (vi 0), none]) (hi := rfl) (hd := dX3_heardWordsByWords_1) (by decide) rfl rfl (pc' := 2) rfl ?_
  refine X.iconst dX3_heardWordsByWords_2 (pc' := 3) rfl ?_
  refine X.istore_n (i := 3) (ls' := [some (rf a), some (vi s), some (vi 0), some (vi 0)]) (hi := rfl) (hd := dX3_heardWordsByWords_3) (by decide) rfl rfl (pc' := 4) rfl ?_
  have L4 : ∀ (n4 : Nat) (c : Int) (k : Int), (aW A - k).toNat < n4 → (0 ≤ k ∧ k ≤ aW A ∧ c = cnt (fun n => fh A s n ≠ -1) (fun _ => inferInstance) k.toNat) → X Ω RX3 cX3_heardWordsByWords 4 (some .int) false rm_X3_heardWordsByWords PR xNo 0 0 4 [some (rf a), some (vi s), some (vi c), some (vi k)] [] h := by
    intro n4
    induction n4 with
    | zero => intro c k hm _; exfalso; omega
    | succ n4 ih4 =>
      intro c k hm4 hinv
      obtain ⟨hk0, hkn, hc⟩ := hinv
      refine X.iload_n (i := 3) rfl rfl dX3_heardWordsByWords_4 (pc' := 5) rfl ?_
      refine X.aload_n (i := 0) rfl rfl dX3_heardWordsByWords_5 (pc' := 6) rfl ?_
      refine X.getR fk_X3_9 xcl_3 dX3_heardWordsByWords_6 hP.1 hP.2 (pc' := 9) rfl ?_
      refine X.getI (x := aW A) fk_X3_74 xcl_0 dX3_heardWordsByWords_9 (by decide) hR.1.1.1 hR.1.2.2.2.1 (pc' := 12) rfl (fun r1 => ?_)
      obtain ⟨r1a, r1b⟩ := r1
      refine X.icmp_ge (tgt := 39) dX3_heardWordsByWords_12 ⟨by omega, by omega⟩ ⟨by omega, by omega⟩ (by decide) (pc' := 15) rfl (fun c12 => ?_) (fun c12 => ?_)
      · refine X.iload_n (i := 2) rfl rfl dX3_heardWordsByWords_39 (pc' := 40) rfl ?_
        refine X.iret dX3_heardWordsByWords_40 (Or.inl rfl) (Nat.le_of_ble_eq_true rfl) (Nat.le_of_ble_eq_true rfl) ?_
        subst hPR
        have e : k = aW A := by omega
        subst e
        exact ⟨rfl, _, rfl, hc⟩
      · refine X.aload_n (i := 0) rfl rfl dX3_heardWordsByWords_15 (pc' := 16) rfl ?_
        refine X.getR fk_X3_9 xcl_3 dX3_heardWordsByWords_16 hP.1 hP.2 (pc' := 19) rfl ?_
        refine X.getR fk_X3_38 xcl_0 dX3_heardWordsByWords_19 hR.1.1.1 hR.1.1.2.2.2.2.2.2.2.2.1.1 (pc' := 22) rfl ?_
        refine X.iload_n (i := 1) rfl rfl dX3_heardWordsByWords_22 (pc' := 23) rfl ?_
        refine X.aald13 dX3_heardWordsByWords_23 hR.1.1.2.2.2.2.2.2.2.2.1.2 (by omega) (by omega) ⟨by omega, by omega⟩ (hR.1.1.2.2.2.2.2.2.2.2.2.2.2.2.1 (s) (by omega) (by omega)).1 (pc' := 24) rfl ?_
        refine X.iload_n (i := 3) rfl rfl dX3_heardWordsByWords_24 (pc' := 25) rfl ?_
        refine X.iald (x := fh A s k) dX3_heardWordsByWords_25 (hR.1.1.2.2.2.2.2.2.2.2.2.2.2.2.1 (s) (by omega) (by omega)).2 (by omega) (by omega) ⟨by omega, by omega⟩ (hR.2.1 s k (by omega) (by omega) (by omega) (by omega)) (pc' := 26) rfl (fun r2 => ?_)
        obtain ⟨r2a, r2b⟩ := r2
        have r2c := fh_rng hR.1.2.1 s k (by omega) (by omega) (by omega) (by omega)
        refine X.iconst dX3_heardWordsByWords_26 (pc' := 27) rfl ?_
        refine X.icmp_eq (tgt := 33) dX3_heardWordsByWords_27 ⟨by omega, by omega⟩ ⟨by omega, by omega⟩ (by decide) (pc' := 30) rfl (fun c27 => ?_) (fun c27 => ?_)
        · refine X.iinc (i := 3) (ls' := [some (rf a), some (vi s), some (vi c), some (vi (k + 1))]) dX3_heardWordsByWords_33 rfl (by decide) rfl rfl (pc' := 36) rfl ?_
          refine X.goto (tgt := 4) dX3_heardWordsByWords_36 (by decide) ?_
          refine ih4 c (k + 1) (by omega) ?_
          exact ⟨by omega, by omega, cnt_out hc hk0 (by (try dsimp only); omega)⟩
        · refine X.iinc (i := 2) (ls' := [some (rf a), some (vi s), some (vi (c + 1)), some (vi k)]) dX3_heardWordsByWords_30 rfl (by decide) rfl rfl (pc' := 33) rfl ?_
          refine X.iinc (i := 3) (ls' := [some (rf a), some (vi s), some (vi (c + 1)), some (vi (k + 1))]) dX3_heardWordsByWords_33 rfl (by decide) rfl rfl (pc' := 36) rfl ?_
          refine X.goto (tgt := 4) dX3_heardWordsByWords_36 (by decide) ?_
          refine ih4 (c + 1) (k + 1) (by omega) ?_
          exact ⟨by omega, by omega, cnt_in hc hk0 (by (try dsimp only); omega)⟩
  refine L4 _ 0 0 (Nat.lt_succ_self _) ?_
  exact ⟨by omega, by omega, rfl⟩
set_option maxHeartbeats 4000000 in
set_option maxRecDepth 100000 in
theorem k_X3_wordsSaidBy {Ω : xO} {h : xM} {a b : Nat} {A : aS} {s : Int} (hP : RpS h a b) (hR : RC h b A) (hs : 0 ≤ s ∧ s < 6) : xCt Ω yX3_wordsSaidBy cX3_wordsSaidBy 4 (some .int) rm_X3_wordsSaidBy [rf a, vi s] h (fun q h' => h = h' ∧ ∃ r, q = some (vi r) ∧ r = sBy A s) xNo := by
  refine xCt_of (ini := false) (by decide +kernel) (Nat.le_of_ble_eq_true rfl) (fun q => absurd q (by decide)) ?_
  generalize hPR : (fun q h' => h = h' ∧ ∃ r, q = some (vi r) ∧ r = sBy A s : Option xV → xM → Prop) = PR
  have K0 : X Ω RX3 cX3_wordsSaidBy 4 (some .int) false rm_X3_wordsSaidBy PR xNo 0 0 0 [some (rf a), some (vi s), none, none] [] h := ?_
  exact K0
  have okA : aOK A := hR.1.2.1
  obtain ⟨okB, okN, okWl, okS, okW, okM, okC, okH⟩ := id hR.1.2.1
  refine X.iconst dX3_wordsSaidBy_0 (pc' := 1) rfl ?_
  refine X.istore_n (i := 2) (ls' := [some (rf a), some (vi s), some (vi 0), none]) (hi := rfl) (hd := dX3_wordsSaidBy_1) (by decide) rfl rfl (pc' := 2) rfl ?_
  refine X.iconst dX3_wordsSaidBy_2 (pc' := 3) rfl ?_
  refine X.istore_n (i := 3) (ls' := [some (rf a), some (vi s), some (vi 0), some (vi 0)]) (hi := rfl) (hd := dX3_wordsSaidBy_3) (by decide) rfl rfl (pc' := 4) rfl ?_
  have L4 : ∀ (n4 : Nat) (c : Int) (k : Int), (aW A - k).toNat < n4 → (0 ≤ k ∧ k ≤ aW A ∧ c = cnt (fun n => aSe A n = s) (fun _ => inferInstance) k.toNat) → X Ω RX3 cX3_wordsSaidBy 4 (some .int) false rm_X3_wordsSaidBy PR xNo 0 0 4 [some (rf a), some (vi s), some (vi c), some (vi k)] [] h := by
    intro n4
    induction n4 with
    | zero => intro c k hm _; exfalso; omega
    | succ n4 ih4 =>
      intro c k hm4 hinv
      obtain ⟨hk0, hkn, hc⟩ := hinv
      refine X.iload_n (i := 3) rfl rfl dX3_wordsSaidBy_4 (pc' := 5) rfl ?_
      refine X.aload_n (i := 0) rfl rfl dX3_wordsSaidBy_5 (pc' := 6) rfl ?_
      refine X.getR fk_X3_9 xcl_3 dX3_wordsSaidBy_6 hP.1 hP.2 (pc' := 9) rfl ?_
      refine X.getI (x := aW A) fk_X3_74 xcl_0 dX3_wordsSaidBy_9 (by decide) hR.1.1.1 hR.1.2.2.2.1 (pc' := 12) rfl (fun r1 => ?_)
      obtain ⟨r1a, r1b⟩ := r1
      refine X.icmp_ge (tgt := 37) dX3_wordsSaidBy_12 ⟨by omega, by omega⟩ ⟨by omega, by omega⟩ (by decide) (pc' := 15) rfl (fun c12 => ?_) (fun c12 => ?_)
      · refine X.iload_n (i := 2) rfl rfl dX3_wordsSaidBy_37 (pc' := 38) rfl ?_
        refine X.iret dX3_wordsSaidBy_38 (Or.inl rfl) (Nat.le_of_ble_eq_true rfl) (Nat.le_of_ble_eq_true rfl) ?_
        subst hPR
        have e : k = aW A := by omega
        subst e
        exact ⟨rfl, _, rfl, hc⟩
      · refine X.aload_n (i := 0) rfl rfl dX3_wordsSaidBy_15 (pc' := 16) rfl ?_
        refine X.getR fk_X3_9 xcl_3 dX3_wordsSaidBy_16 hP.1 hP.2 (pc' := 19) rfl ?_
        refine X.getR fk_X3_15 xcl_0 dX3_wordsSaidBy_19 hR.1.1.1 hR.1.1.2.2.2.1.1 (pc' := 22) rfl ?_
        refine X.iload_n (i := 3) rfl rfl dX3_wordsSaidBy_22 (pc' := 23) rfl ?_
        refine X.iald (x := aSe A k) dX3_wordsSaidBy_23 hR.1.1.2.2.2.1.2 (by omega) (by omega) ⟨by omega, by omega⟩ (hR.1.2.2.2.2.2.2.1 k (by omega) (by omega)) (pc' := 24) rfl (fun r2 => ?_)
        obtain ⟨r2a, r2b⟩ := r2
        have r2c := hR.1.2.1.2.2.2.2.1 k (by omega) (by omega)
        refine X.iload_n (i := 1) rfl rfl dX3_wordsSaidBy_24 (pc' := 25) rfl ?_
        refine X.icmp_ne (tgt := 31) dX3_wordsSaidBy_25 ⟨by omega, by omega⟩ ⟨by omega, by omega⟩ (by decide) (pc' := 28) rfl (fun c25 => ?_) (fun c25 => ?_)
        · refine X.iinc (i := 3) (ls' := [some (rf a), some (vi s), some (vi c), some (vi (k + 1))]) dX3_wordsSaidBy_31 rfl (by decide) rfl rfl (pc' := 34) rfl ?_
          refine X.goto (tgt := 4) dX3_wordsSaidBy_34 (by decide) ?_
          refine ih4 c (k + 1) (by omega) ?_
          exact ⟨by omega, by omega, cnt_out hc hk0 (by (try dsimp only); omega)⟩
        · refine X.iinc (i := 2) (ls' := [some (rf a), some (vi s), some (vi (c + 1)), some (vi k)]) dX3_wordsSaidBy_28 rfl (by decide) rfl rfl (pc' := 31) rfl ?_
          refine X.iinc (i := 3) (ls' := [some (rf a), some (vi s), some (vi (c + 1)), some (vi (k + 1))]) dX3_wordsSaidBy_31 rfl (by decide) rfl rfl (pc' := 34) rfl ?_
          refine X.goto (tgt := 4) dX3_wordsSaidBy_34 (by decide) ?_
          refine ih4 (c + 1) (k + 1) (by omega) ?_
          exact ⟨by omega, by omega, cnt_in hc hk0 (by (try dsimp only); omega)⟩
  refine L4 _ 0 0 (Nat.lt_succ_self _) ?_
  exact ⟨by omega, by omega, rfl⟩
set_option maxHeartbeats 4000000 in
set_option maxRecDepth 100000 in
theorem k_X3_isRepeated {Ω : xO} {h : xM} {a b : Nat} {A : aS} {s k : Int} (hP : RpS h a b) (hR : RC h b A) (hs : 0 ≤ s ∧ s < 6) (hk : 0 ≤ k ∧ k < aB A) : xCt Ω yX3_isRepeated cX3_isRepeated 4 (some .boolean) rm_X3_isRepeated [rf a, vi s, vi k] h (fun q h' => h = h' ∧ ∃ r, q = some (vi r) ∧ (((0 < k ∧ aHe A s k ≠ -1 ∧ aHe A s k = aHe A s (k - 1)) ∧ r = 1) ∨ (¬ (0 < k ∧ aHe A s k ≠ -1 ∧ aHe A s k = aHe A s (k - 1)) ∧ r = 0))) xNo := by
  refine xCt_of (ini := false) (by decide +kernel) (Nat.le_of_ble_eq_true rfl) (fun q => absurd q (by decide)) ?_
  generalize hPR : (fun q h' => h = h' ∧ ∃ r, q = some (vi r) ∧ (((0 < k ∧ aHe A s k ≠ -1 ∧ aHe A s k = aHe A s (k - 1)) ∧ r = 1) ∨ (¬ (0 < k ∧ aHe A s k ≠ -1 ∧ aHe A s k = aHe A s (k - 1)) ∧ r = 0)) : Option xV → xM → Prop) = PR
  have K0 : X Ω RX3 cX3_isRepeated 4 (some .boolean) false rm_X3_isRepeated PR xNo 0 0 0 [some (rf a), some (vi s), some (vi k), none] [] h := ?_
  exact K0
  have okA : aOK A := hR.1.2.1
  obtain ⟨okB, okN, okWl, okS, okW, okM, okC, okH⟩ := id hR.1.2.1
  refine X.aload_n (i := 0) rfl rfl dX3_isRepeated_0 (pc' := 1) rfl ?_
  refine X.getR fk_X3_9 xcl_3 dX3_isRepeated_1 hP.1 hP.2 (pc' := 4) rfl ?_
  refine X.getR fk_X3_41 xcl_0 dX3_isRepeated_4 hR.1.1.1 hR.1.1.2.2.2.2.2.2.2.2.2.1.1 (pc' := 7) rfl ?_
  refine X.iload_n (i := 1) rfl rfl dX3_isRepeated_7 (pc' := 8) rfl ?_
  refine X.aald13 dX3_isRepeated_8 hR.1.1.2.2.2.2.2.2.2.2.2.1.2 (by omega) (by omega) ⟨by omega, by omega⟩ (hR.1.1.2.2.2.2.2.2.2.2.2.2.2.2.2 (s) (by omega) (by omega)).1 (pc' := 9) rfl ?_
  refine X.astore_n (i := 3) (ls' := [some (rf a), some (vi s), some (vi k), some (rf ((b + 22 + (s).toNat)))]) (hi := rfl) (hd := dX3_isRepeated_9) (by decide) rfl rfl (pc' := 10) rfl ?_
  refine X.iload_n (i := 2) rfl rfl dX3_isRepeated_10 (pc' := 11) rfl ?_
  refine X.if_le (tgt := 36) dX3_isRepeated_11 ⟨by omega, by omega⟩ (by decide) (pc' := 14) rfl (fun c11 => ?_) (fun c11 => ?_)
  · refine X.iconst dX3_isRepeated_36 (pc' := 37) rfl ?_
    refine X.iret dX3_isRepeated_37 (Or.inr ⟨rfl, by omega⟩) (Nat.le_of_ble_eq_true rfl) (Nat.le_of_ble_eq_true rfl) ?_
    subst hPR
    exact ⟨rfl, _, rfl, by omega⟩
  · refine X.aload_n (i := 3) rfl rfl dX3_isRepeated_14 (pc' := 15) rfl ?_
    refine X.iload_n (i := 2) rfl rfl dX3_isRepeated_15 (pc' := 16) rfl ?_
    refine X.iald (x := aHe A s k) dX3_isRepeated_16 (hR.1.1.2.2.2.2.2.2.2.2.2.2.2.2.2 (s) (by omega) (by omega)).2 (by omega) (by omega) ⟨by omega, by omega⟩ (hR.2.2.1 s k (by omega) (by omega) (by omega) (by omega)) (pc' := 17) rfl (fun r1 => ?_)
    obtain ⟨r1a, r1b⟩ := r1
    have r1c := hR.1.2.1.2.2.2.2.2.2.2 s k (by omega) (by omega) (by omega) (by omega)
    refine X.iconst dX3_isRepeated_17 (pc' := 18) rfl ?_
    refine X.icmp_eq (tgt := 36) dX3_isRepeated_18 ⟨by omega, by omega⟩ ⟨by omega, by omega⟩ (by decide) (pc' := 21) rfl (fun c18 => ?_) (fun c18 => ?_)
    · refine X.iconst dX3_isRepeated_36 (pc' := 37) rfl ?_
      refine X.iret dX3_isRepeated_37 (Or.inr ⟨rfl, by omega⟩) (Nat.le_of_ble_eq_true rfl) (Nat.le_of_ble_eq_true rfl) ?_
      subst hPR
      exact ⟨rfl, _, rfl, by omega⟩
    · refine X.aload_n (i := 3) rfl rfl dX3_isRepeated_21 (pc' := 22) rfl ?_
      refine X.iload_n (i := 2) rfl rfl dX3_isRepeated_22 (pc' := 23) rfl ?_
      refine X.iald (x := aHe A s k) dX3_isRepeated_23 (hR.1.1.2.2.2.2.2.2.2.2.2.2.2.2.2 (s) (by omega) (by omega)).2 (by omega) (by omega) ⟨by omega, by omega⟩ (hR.2.2.1 s k (by omega) (by omega) (by omega) (by omega)) (pc' := 24) rfl (fun r2 => ?_)
      obtain ⟨r2a, r2b⟩ := r2
      have r2c := hR.1.2.1.2.2.2.2.2.2.2 s k (by omega) (by omega) (by omega) (by omega)
      refine X.aload_n (i := 3) rfl rfl dX3_isRepeated_24 (pc' := 25) rfl ?_
      refine X.iload_n (i := 2) rfl rfl dX3_isRepeated_25 (pc' := 26) rfl ?_
      refine X.iconst dX3_isRepeated_26 (pc' := 27) rfl ?_
      refine X.isub dX3_isRepeated_27 (pc' := 28) rfl ?_
      refine X.iald (x := aHe A s (k - 1)) dX3_isRepeated_28 (hR.1.1.2.2.2.2.2.2.2.2.2.2.2.2.2 (s) (by omega) (by omega)).2 (by omega) (by omega) ⟨by omega, by omega⟩ (hR.2.2.1 s (k - 1) (by omega) (by omega) (by omega) (by omega)) (pc' := 29) rfl (fun r3 => ?_)
      obtain ⟨r3a, r3b⟩ := r3
      have r3c := hR.1.2.1.2.2.2.2.2.2.2 s (k - 1) (by omega) (by omega) (by omega) (by omega)
      refine X.icmp_ne (tgt := 36) dX3_isRepeated_29 ⟨by omega, by omega⟩ ⟨by omega, by omega⟩ (by decide) (pc' := 32) rfl (fun c29 => ?_) (fun c29 => ?_)
      · refine X.iconst dX3_isRepeated_36 (pc' := 37) rfl ?_
        refine X.iret dX3_isRepeated_37 (Or.inr ⟨rfl, by omega⟩) (Nat.le_of_ble_eq_true rfl) (Nat.le_of_ble_eq_true rfl) ?_
        subst hPR
        exact ⟨rfl, _, rfl, by omega⟩
      · refine X.iconst dX3_isRepeated_32 (pc' := 33) rfl ?_
        refine X.goto (tgt := 37) dX3_isRepeated_33 (by decide) ?_
        refine X.iret dX3_isRepeated_37 (Or.inr ⟨rfl, by omega⟩) (Nat.le_of_ble_eq_true rfl) (Nat.le_of_ble_eq_true rfl) ?_
        subst hPR
        exact ⟨rfl, _, rfl, by omega⟩
set_option maxHeartbeats 4000000 in
set_option maxRecDepth 100000 in
theorem k_X3_repeatedBeats {Ω : xO} {h : xM} {a b : Nat} {A : aS} {s : Int} (hP : RpS h a b) (hR : RC h b A) (hs : 0 ≤ s ∧ s < 6) : xCt Ω yX3_repeatedBeats cX3_repeatedBeats 4 (some .int) rm_X3_repeatedBeats [rf a, vi s] h (fun q h' => h = h' ∧ ∃ r, q = some (vi r) ∧ r = hRp A s) xNo := by
  refine xCt_of (ini := false) (by decide +kernel) (Nat.le_of_ble_eq_true rfl) (fun q => absurd q (by decide)) ?_
  generalize hPR : (fun q h' => h = h' ∧ ∃ r, q = some (vi r) ∧ r = hRp A s : Option xV → xM → Prop) = PR
  have K0 : X Ω RX3 cX3_repeatedBeats 4 (some .int) false rm_X3_repeatedBeats PR xNo 0 0 0 [some (rf a), some (vi s), none, none] [] h := ?_
  exact K0
  have okA : aOK A := hR.1.2.1
  obtain ⟨okB, okN, okWl, okS, okW, okM, okC, okH⟩ := id hR.1.2.1
  refine X.iconst dX3_repeatedBeats_0 (pc' := 1) rfl ?_
  refine X.istore_n (i := 2) (ls' := [some (rf a), some (vi s), some (vi 0), none]) (hi := rfl) (hd := dX3_repeatedBeats_1) (by decide) rfl rfl (pc' := 2) rfl ?_
  refine X.iconst dX3_repeatedBeats_2 (pc' := 3) rfl ?_
  refine X.istore_n (i := 3) (ls' := [some (rf a), some (vi s), some (vi 0), some (vi 0)]) (hi := rfl) (hd := dX3_repeatedBeats_3) (by decide) rfl rfl (pc' := 4) rfl ?_
  have L4 : ∀ (n4 : Nat) (c : Int) (k : Int), (aB A - k).toNat < n4 → (0 ≤ k ∧ k ≤ aB A ∧ c = cnt (fun k => 0 < k ∧ aHe A s k ≠ -1 ∧ aHe A s k = aHe A s (k - 1)) (fun _ => inferInstance) k.toNat) → X Ω RX3 cX3_repeatedBeats 4 (some .int) false rm_X3_repeatedBeats PR xNo 0 0 4 [some (rf a), some (vi s), some (vi c), some (vi k)] [] h := by
    intro n4
    induction n4 with
    | zero => intro c k hm _; exfalso; omega
    | succ n4 ih4 =>
      intro c k hm4 hinv
      obtain ⟨hk0, hkn, hc⟩ := hinv
      refine X.iload_n (i := 3) rfl rfl dX3_repeatedBeats_4 (pc' := 5) rfl ?_
      refine X.aload_n (i := 0) rfl rfl dX3_repeatedBeats_5 (pc' := 6) rfl ?_
      refine X.getR fk_X3_9 xcl_3 dX3_repeatedBeats_6 hP.1 hP.2 (pc' := 9) rfl ?_
      refine X.getI (x := aB A) fk_X3_61 xcl_0 dX3_repeatedBeats_9 (by decide) hR.1.1.1 hR.1.2.2.1 (pc' := 12) rfl (fun r1 => ?_)
      obtain ⟨r1a, r1b⟩ := r1
      refine X.icmp_ge (tgt := 33) dX3_repeatedBeats_12 ⟨by omega, by omega⟩ ⟨by omega, by omega⟩ (by decide) (pc' := 15) rfl (fun c12 => ?_) (fun c12 => ?_)
      · refine X.iload_n (i := 2) rfl rfl dX3_repeatedBeats_33 (pc' := 34) rfl ?_
        refine X.iret dX3_repeatedBeats_34 (Or.inl rfl) (Nat.le_of_ble_eq_true rfl) (Nat.le_of_ble_eq_true rfl) ?_
        subst hPR
        have e : k = aB A := by omega
        subst e
        exact ⟨rfl, _, rfl, hc⟩
      · refine X.aload_n (i := 0) rfl rfl dX3_repeatedBeats_15 (pc' := 16) rfl ?_
        refine X.iload_n (i := 1) rfl rfl dX3_repeatedBeats_16 (pc' := 17) rfl ?_
        refine X.iload_n (i := 3) rfl rfl dX3_repeatedBeats_17 (pc' := 18) rfl ?_
        refine X.callV (ci := 3) (a := a) (rm := rm_X3_isRepeated) (As := [vi s, vi k]) (st := []) dX3_repeatedBeats_18 ck_X3_44 rfl (by decide) hP.1 rfl rfl ⟨Nat.le_of_ble_eq_true rfl, Nat.le_of_ble_eq_true rfl⟩ (Nat.le_of_ble_eq_true rfl) (Nat.le_of_ble_eq_true rfl) (Nat.le_of_ble_eq_true rfl) (pc' := 21) rfl (k_X3_isRepeated hP hR ⟨by omega, by omega⟩ ⟨by omega, by omega⟩) (fun q2 hq2 eq2 => ?_) (fun _ _ x1 => x1.elim)
        obtain ⟨rfl, r3, rfl, hr3⟩ := eq2
        refine X.if_eq (tgt := 27) dX3_repeatedBeats_21 ⟨by omega, by omega⟩ (by decide) (pc' := 24) rfl (fun c21 => ?_) (fun c21 => ?_)
        · refine X.iinc (i := 3) (ls' := [some (rf a), some (vi s), some (vi c), some (vi (k + 1))]) dX3_repeatedBeats_27 rfl (by decide) rfl rfl (pc' := 30) rfl ?_
          refine X.goto (tgt := 4) dX3_repeatedBeats_30 (by decide) ?_
          refine ih4 c (k + 1) (by omega) ?_
          exact ⟨by omega, by omega, cnt_out hc hk0 (by (try dsimp only); omega)⟩
        · refine X.iinc (i := 2) (ls' := [some (rf a), some (vi s), some (vi (c + 1)), some (vi k)]) dX3_repeatedBeats_24 rfl (by decide) rfl rfl (pc' := 27) rfl ?_
          refine X.iinc (i := 3) (ls' := [some (rf a), some (vi s), some (vi (c + 1)), some (vi (k + 1))]) dX3_repeatedBeats_27 rfl (by decide) rfl rfl (pc' := 30) rfl ?_
          refine X.goto (tgt := 4) dX3_repeatedBeats_30 (by decide) ?_
          refine ih4 (c + 1) (k + 1) (by omega) ?_
          exact ⟨by omega, by omega, cnt_in hc hk0 (by (try dsimp only); omega)⟩
  refine L4 _ 0 0 (Nat.lt_succ_self _) ?_
  exact ⟨by omega, by omega, rfl⟩
set_option maxHeartbeats 4000000 in
set_option maxRecDepth 100000 in
theorem k_X3_gaps {Ω : xO} {h : xM} {a b : Nat} {A : aS} {s : Int} (hP : RpS h a b) (hR : RC h b A) (hs : 0 ≤ s ∧ s < 6) : xCt Ω yX3_gaps cX3_gaps 6 (some .int) rm_X3_gaps [rf a, vi s] h (fun q h' => h = h' ∧ ∃ r, q = some (vi r) ∧ r = gap A s) xNo := by
  refine xCt_of (ini := false) (by decide +kernel) (Nat.le_of_ble_eq_true rfl) (fun q => absurd q (by decide)) ?_
  generalize hPR : (fun q h' => h = h' ∧ ∃ r, q = some (vi r) ∧ r = gap A s : Option xV → xM → Prop) = PR
  have K0 : X Ω RX3 cX3_gaps 6 (some .int) false rm_X3_gaps PR xNo 0 0 0 [some (rf a), some (vi s), none, none, none, none] [] h := ?_
  exact K0
  have okA : aOK A := hR.1.2.1
  obtain ⟨okB, okN, okWl, okS, okW, okM, okC, okH⟩ := id hR.1.2.1
  refine X.iconst dX3_gaps_0 (pc' := 1) rfl ?_
  refine X.istore_n (i := 2) (ls' := [some (rf a), some (vi s), some (vi 0), none, none, none]) (hi := rfl) (hd := dX3_gaps_1) (by decide) rfl rfl (pc' := 2) rfl ?_
  refine X.iconst dX3_gaps_2 (pc' := 3) rfl ?_
  refine X.istore_n (i := 3) (ls' := [some (rf a), some (vi s), some (vi 0), some (vi 0), none, none]) (hi := rfl) (hd := dX3_gaps_3) (by decide) rfl rfl (pc' := 4) rfl ?_
  refine X.iconst dX3_gaps_4 (pc' := 5) rfl ?_
  refine X.istore (i := 4) (ls' := [some (rf a), some (vi s), some (vi 0), some (vi 0), some (vi 0), none]) (hd := dX3_gaps_5) (by decide) rfl rfl (pc' := 7) rfl ?_
  refine X.iconst dX3_gaps_7 (pc' := 8) rfl ?_
  refine X.istore (i := 5) (ls' := [some (rf a), some (vi s), some (vi 0), some (vi 0), some (vi 0), some (vi 0)]) (hd := dX3_gaps_8) (by decide) rfl rfl (pc' := 10) rfl ?_
  have L10 : ∀ (n10 : Nat) (c : Int) (e : Int) (q : Int) (k : Int), (aB A - k).toNat < n10 → (0 ≤ k ∧ k ≤ aB A ∧ c = (gpF (aHe A s) k.toNat).1 ∧ e = (gpF (aHe A s) k.toNat).2.1 ∧ (e = 0 ∨ e = 1) ∧ ((q = 1 ∧ e = 1 ∧ (gpF (aHe A s) k.toNat).2.2 = 1) ∨ (q = 0 ∧ (e = 0 ∨ (gpF (aHe A s) k.toNat).2.2 = 0)))) → X Ω RX3 cX3_gaps 6 (some .int) false rm_X3_gaps PR xNo 0 0 10 [some (rf a), some (vi s), some (vi c), some (vi e), some (vi q), some (vi k)] [] h := by
    intro n10
    induction n10 with
    | zero => intro c e q k hm _; exfalso; omega
    | succ n10 ih10 =>
      intro c e q k hm10 hinv
      obtain ⟨hk0, hkn, hc, he, he2, hq⟩ := hinv
      have hgr := (gpF_rng (aHe A s) k.toNat).2.2
      refine X.iload (i := 5) rfl dX3_gaps_10 (pc' := 12) rfl ?_
      refine X.aload_n (i := 0) rfl rfl dX3_gaps_12 (pc' := 13) rfl ?_
      refine X.getR fk_X3_9 xcl_3 dX3_gaps_13 hP.1 hP.2 (pc' := 16) rfl ?_
      refine X.getI (x := aB A) fk_X3_61 xcl_0 dX3_gaps_16 (by decide) hR.1.1.1 hR.1.2.2.1 (pc' := 19) rfl (fun r1 => ?_)
      obtain ⟨r1a, r1b⟩ := r1
      refine X.icmp_ge (tgt := 63) dX3_gaps_19 ⟨by omega, by omega⟩ ⟨by omega, by omega⟩ (by decide) (pc' := 22) rfl (fun c19 => ?_) (fun c19 => ?_)
      · refine X.iload_n (i := 2) rfl rfl dX3_gaps_63 (pc' := 64) rfl ?_
        refine X.iret dX3_gaps_64 (Or.inl rfl) (Nat.le_of_ble_eq_true rfl) (Nat.le_of_ble_eq_true rfl) ?_
        subst hPR
        have e : k = aB A := by omega
        subst e
        exact ⟨rfl, _, rfl, hc⟩
      · refine X.aload_n (i := 0) rfl rfl dX3_gaps_22 (pc' := 23) rfl ?_
        refine X.getR fk_X3_9 xcl_3 dX3_gaps_23 hP.1 hP.2 (pc' := 26) rfl ?_
        refine X.getR fk_X3_41 xcl_0 dX3_gaps_26 hR.1.1.1 hR.1.1.2.2.2.2.2.2.2.2.2.1.1 (pc' := 29) rfl ?_
        refine X.iload_n (i := 1) rfl rfl dX3_gaps_29 (pc' := 30) rfl ?_
        refine X.aald13 dX3_gaps_30 hR.1.1.2.2.2.2.2.2.2.2.2.1.2 (by omega) (by omega) ⟨by omega, by omega⟩ (hR.1.1.2.2.2.2.2.2.2.2.2.2.2.2.2 (s) (by omega) (by omega)).1 (pc' := 31) rfl ?_
        refine X.iload (i := 5) rfl dX3_gaps_31 (pc' := 33) rfl ?_
        refine X.iald (x := aHe A s k) dX3_gaps_33 (hR.1.1.2.2.2.2.2.2.2.2.2.2.2.2.2 (s) (by omega) (by omega)).2 (by omega) (by omega) ⟨by omega, by omega⟩ (hR.2.2.1 s k (by omega) (by omega) (by omega) (by omega)) (pc' := 34) rfl (fun r2 => ?_)
        obtain ⟨r2a, r2b⟩ := r2
        have r2c := hR.1.2.1.2.2.2.2.2.2.2 s k (by omega) (by omega) (by omega) (by omega)
        refine X.iconst dX3_gaps_34 (pc' := 35) rfl ?_
        refine X.icmp_ne (tgt := 44) dX3_gaps_35 ⟨by omega, by omega⟩ ⟨by omega, by omega⟩ (by decide) (pc' := 38) rfl (fun c35 => ?_) (fun c35 => ?_)
        · refine X.iload (i := 4) rfl dX3_gaps_44 (pc' := 46) rfl ?_
          refine X.if_eq (tgt := 52) dX3_gaps_46 ⟨by omega, by omega⟩ (by decide) (pc' := 49) rfl (fun c46 => ?_) (fun c46 => ?_)
          · refine X.iconst dX3_gaps_52 (pc' := 53) rfl ?_
            refine X.istore_n (i := 3) (ls' := [some (rf a), some (vi s), some (vi c), some (vi 1), some (vi q), some (vi k)]) (hi := rfl) (hd := dX3_gaps_53) (by decide) rfl rfl (pc' := 54) rfl ?_
            refine X.iconst dX3_gaps_54 (pc' := 55) rfl ?_
            refine X.istore (i := 4) (ls' := [some (rf a), some (vi s), some (vi c), some (vi 1), some (vi 0), some (vi k)]) (hd := dX3_gaps_55) (by decide) rfl rfl (pc' := 57) rfl ?_
            refine X.iinc (i := 5) (ls' := [some (rf a), some (vi s), some (vi c), some (vi 1), some (vi 0), some (vi (k + 1))]) dX3_gaps_57 rfl (by decide) rfl rfl (pc' := 60) rfl ?_
            refine X.goto (tgt := 10) dX3_gaps_60 (by decide) ?_
            refine ih10 c 1 0 (k + 1) (by omega) ?_
            have g1 := gpF_in (g := aHe A s) hk0 (by omega)
            rw [if_neg (by omega)] at g1
            exact ⟨by omega, by omega, by omega, by omega, by omega, by omega⟩
          · refine X.iinc (i := 2) (ls' := [some (rf a), some (vi s), some (vi (c + 1)), some (vi e), some (vi q), some (vi k)]) dX3_gaps_49 rfl (by decide) rfl rfl (pc' := 52) rfl ?_
            refine X.iconst dX3_gaps_52 (pc' := 53) rfl ?_
            refine X.istore_n (i := 3) (ls' := [some (rf a), some (vi s), some (vi (c + 1)), some (vi 1), some (vi q), some (vi k)]) (hi := rfl) (hd := dX3_gaps_53) (by decide) rfl rfl (pc' := 54) rfl ?_
            refine X.iconst dX3_gaps_54 (pc' := 55) rfl ?_
            refine X.istore (i := 4) (ls' := [some (rf a), some (vi s), some (vi (c + 1)), some (vi 1), some (vi 0), some (vi k)]) (hd := dX3_gaps_55) (by decide) rfl rfl (pc' := 57) rfl ?_
            refine X.iinc (i := 5) (ls' := [some (rf a), some (vi s), some (vi (c + 1)), some (vi 1), some (vi 0), some (vi (k + 1))]) dX3_gaps_57 rfl (by decide) rfl rfl (pc' := 60) rfl ?_
            refine X.goto (tgt := 10) dX3_gaps_60 (by decide) ?_
            refine ih10 (c + 1) 1 0 (k + 1) (by omega) ?_
            have g1 := gpF_in (g := aHe A s) hk0 (by omega)
            rw [if_pos (by omega)] at g1
            exact ⟨by omega, by omega, by omega, by omega, by omega, by omega⟩
        · refine X.iload_n (i := 3) rfl rfl dX3_gaps_38 (pc' := 39) rfl ?_
          refine X.istore (i := 4) (ls' := [some (rf a), some (vi s), some (vi c), some (vi e), some (vi e), some (vi k)]) (hd := dX3_gaps_39) (by decide) rfl rfl (pc' := 41) rfl ?_
          refine X.goto (tgt := 57) dX3_gaps_41 (by decide) ?_
          refine X.iinc (i := 5) (ls' := [some (rf a), some (vi s), some (vi c), some (vi e), some (vi e), some (vi (k + 1))]) dX3_gaps_57 rfl (by decide) rfl rfl (pc' := 60) rfl ?_
          refine X.goto (tgt := 10) dX3_gaps_60 (by decide) ?_
          refine ih10 c e e (k + 1) (by omega) ?_
          have g1 := gpF_no (g := aHe A s) hk0 (by omega)
          exact ⟨by omega, by omega, by omega, by omega, by omega, by omega⟩
  refine L10 _ 0 0 0 0 (Nat.lt_succ_self _) ?_
  exact ⟨by omega, by omega, rfl, rfl, Or.inl rfl, Or.inr ⟨rfl, Or.inl rfl⟩⟩
set_option maxHeartbeats 4000000 in
set_option maxRecDepth 100000 in
theorem k_X3_hearingOf {Ω : xO} {h : xM} {a b : Nat} {A : aS} {f m s : Int} (hP : RpS h a b) (hR : RC h b A) (hf : 0 ≤ f ∧ f < 6) (hm : 0 ≤ m ∧ m ≤ 9) (hs : 0 ≤ s ∧ s < 6) : xCt Ω yX3_hearingOf cX3_hearingOf 11 (some .int) rm_X3_hearingOf [rf a, vi f, vi m, vi s] h (fun q h' => h = h' ∧ ∃ r, q = some (vi r) ∧ r = how A f m s) xNo := by
  refine xCt_of (ini := false) (by decide +kernel) (Nat.le_of_ble_eq_true rfl) (fun q => absurd q (by decide)) ?_
  generalize hPR : (fun q h' => h = h' ∧ ∃ r, q = some (vi r) ∧ r = how A f m s : Option xV → xM → Prop) = PR
  have K0 : X Ω RX3 cX3_hearingOf 11 (some .int) false rm_X3_hearingOf PR xNo 0 0 0 [some (rf a), some (vi f), some (vi m), some (vi s), none, none, none, none, none, none, none] [] h := ?_
  exact K0
  have okA : aOK A := hR.1.2.1
  obtain ⟨okB, okN, okWl, okS, okW, okM, okC, okH⟩ := id hR.1.2.1
  refine X.aload_n (i := 0) rfl rfl dX3_hearingOf_0 (pc' := 1) rfl ?_
  refine X.getR fk_X3_9 xcl_3 dX3_hearingOf_1 hP.1 hP.2 (pc' := 4) rfl ?_
  refine X.getR fk_X3_77 xcl_0 dX3_hearingOf_4 hR.1.1.1 hR.1.1.2.2.2.2.2.2.2.2.2.2.1.1 (pc' := 7) rfl ?_
  refine X.iload_n (i := 1) rfl rfl dX3_hearingOf_7 (pc' := 8) rfl ?_
  refine X.iload_n (i := 2) rfl rfl dX3_hearingOf_8 (pc' := 9) rfl ?_
  refine X.callS (rm := rm_X0_messagePlace) (As := [vi f, vi m]) (st := [rf ((b + 28))]) dX3_hearingOf_9 ck_X3_80 rfl rfl ⟨Nat.le_of_ble_eq_true rfl, Nat.le_of_ble_eq_true rfl⟩ (Nat.le_of_ble_eq_true rfl) (Nat.le_of_ble_eq_true rfl) (Nat.le_of_ble_eq_true rfl) (pc' := 12) rfl (k_X0_messagePlace ) (fun q1 hq1 eq1 => ?_) (fun _ _ x1 => x1.elim)
  obtain ⟨rfl, pl, rfl, hpl⟩ := eq1
  refine X.iald (x := msg A pl) dX3_hearingOf_12 hR.1.1.2.2.2.2.2.2.2.2.2.2.1.2 (by omega) (by omega) ⟨by omega, by omega⟩ (hR.2.2.2 pl (by omega) (by omega)) (pc' := 13) rfl (fun r2 => ?_)
  obtain ⟨r2a, r2b⟩ := r2
  have r2c := msg_rng hR.1.2.1 pl
  refine X.gen (fun al hal => ?_)
  refine X.istore (i := 4) (ls' := [some (rf a), some (vi f), some (vi m), some (vi s), some (vi al), none, none, none, none, none, none]) (hd := dX3_hearingOf_13) (by decide) rfl rfl (pc' := 15) rfl ?_
  have hal2 := msg_all okA f m s hm hf.1
  rw [← hpl] at hal2
  refine X.iload (i := 4) rfl dX3_hearingOf_15 (pc' := 17) rfl ?_
  refine X.if_ne (tgt := 22) dX3_hearingOf_17 ⟨by omega, by omega⟩ (by decide) (pc' := 20) rfl (fun c17 => ?_) (fun c17 => ?_)
  · refine X.iconst dX3_hearingOf_22 (pc' := 23) rfl ?_
    refine X.istore (i := 5) (ls' := [some (rf a), some (vi f), some (vi m), some (vi s), some (vi al), some (vi 0), none, none, none, none, none]) (hd := dX3_hearingOf_23) (by decide) rfl rfl (pc' := 25) rfl ?_
    refine X.iconst dX3_hearingOf_25 (pc' := 26) rfl ?_
    refine X.istore (i := 6) (ls' := [some (rf a), some (vi f), some (vi m), some (vi s), some (vi al), some (vi 0), some (vi ((-1))), none, none, none, none]) (hd := dX3_hearingOf_26) (by decide) rfl rfl (pc' := 28) rfl ?_
    refine X.iconst dX3_hearingOf_28 (pc' := 29) rfl ?_
    refine X.istore (i := 7) (ls' := [some (rf a), some (vi f), some (vi m), some (vi s), some (vi al), some (vi 0), some (vi ((-1))), some (vi 1), none, none, none]) (hd := dX3_hearingOf_29) (by decide) rfl rfl (pc' := 31) rfl ?_
    refine X.iconst dX3_hearingOf_31 (pc' := 32) rfl ?_
    refine X.istore (i := 8) (ls' := [some (rf a), some (vi f), some (vi m), some (vi s), some (vi al), some (vi 0), some (vi ((-1))), some (vi 1), some (vi 0), none, none]) (hd := dX3_hearingOf_32) (by decide) rfl rfl (pc' := 34) rfl ?_
    have L34 : ∀ (n34 : Nat) (c : Int) (l : Int) (o : Int) (k : Int), (aW A - k).toNat < n34 → (0 ≤ k ∧ k ≤ aW A ∧ c = (hwF A f m s k.toNat).2.1 ∧ (o = 0 ∨ o = 1) ∧ (-1 ≤ l ∧ l ≤ 400) ∧ ((hwF A f m s k.toNat).2.1 = (hwF A f m s k.toNat).1 → (o = (hwF A f m s k.toNat).2.2.2 ∧ (o = 1 → l = (hwF A f m s k.toNat).2.2.1)))) → X Ω RX3 cX3_hearingOf 11 (some .int) false rm_X3_hearingOf PR xNo 0 0 34 [some (rf a), some (vi f), some (vi m), some (vi s), some (vi al), some (vi c), some (vi l), some (vi o), some (vi k), none, none] [] h := by
      intro n34
      induction n34 with
      | zero => intro c l o k hm _; exfalso; omega
      | succ n34 ih34 =>
        intro c l o k hm34 hinv
        obtain ⟨hk0, hkn, hc, ho, hl, hq⟩ := hinv
        have hgr := hwF_rng A f m s k.toNat
        have hbo : 0 ≤ c ∧ c ≤ 200 := by omega
        refine X.iload (i := 8) rfl dX3_hearingOf_34 (pc' := 36) rfl ?_
        refine X.aload_n (i := 0) rfl rfl dX3_hearingOf_36 (pc' := 37) rfl ?_
        refine X.getR fk_X3_9 xcl_3 dX3_hearingOf_37 hP.1 hP.2 (pc' := 40) rfl ?_
        refine X.getI (x := aW A) fk_X3_74 xcl_0 dX3_hearingOf_40 (by decide) hR.1.1.1 hR.1.2.2.2.1 (pc' := 43) rfl (fun r3 => ?_)
        obtain ⟨r3a, r3b⟩ := r3
        refine X.icmp_ge (tgt := 138) dX3_hearingOf_43 ⟨by omega, by omega⟩ ⟨by omega, by omega⟩ (by decide) (pc' := 46) rfl (fun c43 => ?_) (fun c43 => ?_)
        · refine X.iload (i := 5) rfl dX3_hearingOf_138 (pc' := 140) rfl ?_
          refine X.iload (i := 4) rfl dX3_hearingOf_140 (pc' := 142) rfl ?_
          refine X.icmp_ge (tgt := 156) dX3_hearingOf_142 ⟨by omega, by omega⟩ ⟨by omega, by omega⟩ (by decide) (pc' := 145) rfl (fun c142 => ?_) (fun c142 => ?_)
          · refine X.iload (i := 7) rfl dX3_hearingOf_156 (pc' := 158) rfl ?_
            refine X.if_eq (tgt := 165) dX3_hearingOf_158 ⟨by omega, by omega⟩ (by decide) (pc' := 161) rfl (fun c158 => ?_) (fun c158 => ?_)
            · refine X.iconst dX3_hearingOf_165 (pc' := 166) rfl ?_
              refine X.iret dX3_hearingOf_166 (Or.inl rfl) (Nat.le_of_ble_eq_true rfl) (Nat.le_of_ble_eq_true rfl) ?_
              subst hPR
              have e : k = aW A := by omega
              subst e
              refine ⟨rfl, _, rfl, ?_⟩
              unfold how
              rw [if_neg (by omega)]
              have hq2 := hq (by omega)
              rw [if_neg (by omega), if_neg (by omega)]
              rw [if_neg (by omega)]
            · refine X.iconst dX3_hearingOf_161 (pc' := 162) rfl ?_
              refine X.goto (tgt := 166) dX3_hearingOf_162 (by decide) ?_
              refine X.iret dX3_hearingOf_166 (Or.inl rfl) (Nat.le_of_ble_eq_true rfl) (Nat.le_of_ble_eq_true rfl) ?_
              subst hPR
              have e : k = aW A := by omega
              subst e
              refine ⟨rfl, _, rfl, ?_⟩
              unfold how
              rw [if_neg (by omega)]
              have hq2 := hq (by omega)
              rw [if_neg (by omega), if_neg (by omega)]
              rw [if_pos (by omega)]
          · refine X.iload (i := 5) rfl dX3_hearingOf_145 (pc' := 147) rfl ?_
            refine X.if_ne (tgt := 154) dX3_hearingOf_147 ⟨by omega, by omega⟩ (by decide) (pc' := 150) rfl (fun c147 => ?_) (fun c147 => ?_)
            · refine X.iconst dX3_hearingOf_154 (pc' := 155) rfl ?_
              refine X.iret dX3_hearingOf_155 (Or.inl rfl) (Nat.le_of_ble_eq_true rfl) (Nat.le_of_ble_eq_true rfl) ?_
              subst hPR
              have e : k = aW A := by omega
              subst e
              refine ⟨rfl, _, rfl, ?_⟩
              unfold how
              rw [if_neg (by omega)]
              rw [if_neg (by omega), if_pos (by omega)]
            · refine X.iconst dX3_hearingOf_150 (pc' := 151) rfl ?_
              refine X.goto (tgt := 155) dX3_hearingOf_151 (by decide) ?_
              refine X.iret dX3_hearingOf_155 (Or.inl rfl) (Nat.le_of_ble_eq_true rfl) (Nat.le_of_ble_eq_true rfl) ?_
              subst hPR
              have e : k = aW A := by omega
              subst e
              refine ⟨rfl, _, rfl, ?_⟩
              unfold how
              rw [if_neg (by omega)]
              rw [if_pos (by omega)]
        · refine X.aload_n (i := 0) rfl rfl dX3_hearingOf_46 (pc' := 47) rfl ?_
          refine X.getR fk_X3_9 xcl_3 dX3_hearingOf_47 hP.1 hP.2 (pc' := 50) rfl ?_
          refine X.getR fk_X3_38 xcl_0 dX3_hearingOf_50 hR.1.1.1 hR.1.1.2.2.2.2.2.2.2.2.1.1 (pc' := 53) rfl ?_
          refine X.iload_n (i := 3) rfl rfl dX3_hearingOf_53 (pc' := 54) rfl ?_
          refine X.aald13 dX3_hearingOf_54 hR.1.1.2.2.2.2.2.2.2.2.1.2 (by omega) (by omega) ⟨by omega, by omega⟩ (hR.1.1.2.2.2.2.2.2.2.2.2.2.2.2.1 (s) (by omega) (by omega)).1 (pc' := 55) rfl ?_
          refine X.iload (i := 8) rfl dX3_hearingOf_55 (pc' := 57) rfl ?_
          refine X.iald (x := fh A s k) dX3_hearingOf_57 (hR.1.1.2.2.2.2.2.2.2.2.2.2.2.2.1 (s) (by omega) (by omega)).2 (by omega) (by omega) ⟨by omega, by omega⟩ (hR.2.1 s k (by omega) (by omega) (by omega) (by omega)) (pc' := 58) rfl (fun r4 => ?_)
          obtain ⟨r4a, r4b⟩ := r4
          have r4c := fh_rng hR.1.2.1 s k (by omega) (by omega) (by omega) (by omega)
          refine X.gen (fun fi hfi => ?_)
          refine X.istore (i := 9) (ls' := [some (rf a), some (vi f), some (vi m), some (vi s), some (vi al), some (vi c), some (vi l), some (vi o), some (vi k), some (vi fi), none]) (hd := dX3_hearingOf_58) (by decide) rfl rfl (pc' := 60) rfl ?_
          refine X.aload_n (i := 0) rfl rfl dX3_hearingOf_60 (pc' := 61) rfl ?_
          refine X.getR fk_X3_9 xcl_3 dX3_hearingOf_61 hP.1 hP.2 (pc' := 64) rfl ?_
          refine X.getR fk_X3_15 xcl_0 dX3_hearingOf_64 hR.1.1.1 hR.1.1.2.2.2.1.1 (pc' := 67) rfl ?_
          refine X.iload (i := 8) rfl dX3_hearingOf_67 (pc' := 69) rfl ?_
          refine X.iald (x := aSe A k) dX3_hearingOf_69 hR.1.1.2.2.2.1.2 (by omega) (by omega) ⟨by omega, by omega⟩ (hR.1.2.2.2.2.2.2.1 k (by omega) (by omega)) (pc' := 70) rfl (fun r5 => ?_)
          obtain ⟨r5a, r5b⟩ := r5
          have r5c := hR.1.2.1.2.2.2.2.1 k (by omega) (by omega)
          refine X.iload_n (i := 1) rfl rfl dX3_hearingOf_70 (pc' := 71) rfl ?_
          refine X.icmp_ne (tgt := 92) dX3_hearingOf_71 ⟨by omega, by omega⟩ ⟨by omega, by omega⟩ (by decide) (pc' := 74) rfl (fun c71 => ?_) (fun c71 => ?_)
          · refine X.iconst dX3_hearingOf_92 (pc' := 93) rfl ?_
            refine X.istore (i := 10) (ls' := [some (rf a), some (vi f), some (vi m), some (vi s), some (vi al), some (vi c), some (vi l), some (vi o), some (vi k), some (vi fi), some (vi 0)]) (hd := dX3_hearingOf_93) (by decide) rfl rfl (pc' := 95) rfl ?_
            refine X.iload (i := 10) rfl dX3_hearingOf_95 (pc' := 97) rfl ?_
            refine X.if_eq (tgt := 132) dX3_hearingOf_97 ⟨by omega, by omega⟩ (by decide) (pc' := 100) rfl (fun c97 => ?_) (fun c97 => by exfalso; omega)
            refine X.iinc (i := 8) (ls' := [some (rf a), some (vi f), some (vi m), some (vi s), some (vi al), some (vi c), some (vi l), some (vi o), some (vi (k + 1)), some (vi fi), some (vi 0)]) dX3_hearingOf_132 rfl (by decide) rfl rfl (pc' := 135) rfl ?_
            refine X.goto (tgt := 34) dX3_hearingOf_135 (by decide) ?_
            refine X.mask (bs := [true, true, true, true, true, true, true, true, true, false, false]) (ls' := [some (rf a), some (vi f), some (vi m), some (vi s), some (vi al), some (vi c), some (vi l), some (vi o), some (vi (k + 1)), none, none]) rfl ?_
            refine ih34 c l o (k + 1) (by omega) ?_
            have g1 := hwF_out (A := A) (f := f) (m := m) (s := s) hk0 (by omega)
            rw [g1]
            exact ⟨by omega, by omega, hc, ho, hl, hq⟩
          · refine X.aload_n (i := 0) rfl rfl dX3_hearingOf_74 (pc' := 75) rfl ?_
            refine X.getR fk_X3_9 xcl_3 dX3_hearingOf_75 hP.1 hP.2 (pc' := 78) rfl ?_
            refine X.getR fk_X3_24 xcl_0 dX3_hearingOf_78 hR.1.1.1 hR.1.1.2.2.2.2.2.1.1 (pc' := 81) rfl ?_
            refine X.iload (i := 8) rfl dX3_hearingOf_81 (pc' := 83) rfl ?_
            refine X.iald (x := aMa A k) dX3_hearingOf_83 hR.1.1.2.2.2.2.2.1.2 (by omega) (by omega) ⟨by omega, by omega⟩ (hR.1.2.2.2.2.2.2.2.2.1 k (by omega) (by omega)) (pc' := 84) rfl (fun r6 => ?_)
            obtain ⟨r6a, r6b⟩ := r6
            have r6c := hR.1.2.1.2.2.2.2.1 k (by omega) (by omega)
            refine X.iload_n (i := 2) rfl rfl dX3_hearingOf_84 (pc' := 85) rfl ?_
            refine X.icmp_ne (tgt := 92) dX3_hearingOf_85 ⟨by omega, by omega⟩ ⟨by omega, by omega⟩ (by decide) (pc' := 88) rfl (fun c85 => ?_) (fun c85 => ?_)
            · refine X.iconst dX3_hearingOf_92 (pc' := 93) rfl ?_
              refine X.istore (i := 10) (ls' := [some (rf a), some (vi f), some (vi m), some (vi s), some (vi al), some (vi c), some (vi l), some (vi o), some (vi k), some (vi fi), some (vi 0)]) (hd := dX3_hearingOf_93) (by decide) rfl rfl (pc' := 95) rfl ?_
              refine X.iload (i := 10) rfl dX3_hearingOf_95 (pc' := 97) rfl ?_
              refine X.if_eq (tgt := 132) dX3_hearingOf_97 ⟨by omega, by omega⟩ (by decide) (pc' := 100) rfl (fun c97 => ?_) (fun c97 => by exfalso; omega)
              refine X.iinc (i := 8) (ls' := [some (rf a), some (vi f), some (vi m), some (vi s), some (vi al), some (vi c), some (vi l), some (vi o), some (vi (k + 1)), some (vi fi), some (vi 0)]) dX3_hearingOf_132 rfl (by decide) rfl rfl (pc' := 135) rfl ?_
              refine X.goto (tgt := 34) dX3_hearingOf_135 (by decide) ?_
              refine X.mask (bs := [true, true, true, true, true, true, true, true, true, false, false]) (ls' := [some (rf a), some (vi f), some (vi m), some (vi s), some (vi al), some (vi c), some (vi l), some (vi o), some (vi (k + 1)), none, none]) rfl ?_
              refine ih34 c l o (k + 1) (by omega) ?_
              have g1 := hwF_out (A := A) (f := f) (m := m) (s := s) hk0 (by omega)
              rw [g1]
              exact ⟨by omega, by omega, hc, ho, hl, hq⟩
            · refine X.iconst dX3_hearingOf_88 (pc' := 89) rfl ?_
              refine X.goto (tgt := 93) dX3_hearingOf_89 (by decide) ?_
              refine X.istore (i := 10) (ls' := [some (rf a), some (vi f), some (vi m), some (vi s), some (vi al), some (vi c), some (vi l), some (vi o), some (vi k), some (vi fi), some (vi 1)]) (hd := dX3_hearingOf_93) (by decide) rfl rfl (pc' := 95) rfl ?_
              refine X.iload (i := 10) rfl dX3_hearingOf_95 (pc' := 97) rfl ?_
              refine X.if_eq (tgt := 132) dX3_hearingOf_97 ⟨by omega, by omega⟩ (by decide) (pc' := 100) rfl (fun c97 => by exfalso; omega) (fun c97 => ?_)
              refine X.iload (i := 9) rfl dX3_hearingOf_100 (pc' := 102) rfl ?_
              refine X.iconst dX3_hearingOf_102 (pc' := 103) rfl ?_
              refine X.icmp_eq (tgt := 132) dX3_hearingOf_103 ⟨by omega, by omega⟩ ⟨by omega, by omega⟩ (by decide) (pc' := 106) rfl (fun c103 => ?_) (fun c103 => ?_)
              · refine X.iinc (i := 8) (ls' := [some (rf a), some (vi f), some (vi m), some (vi s), some (vi al), some (vi c), some (vi l), some (vi o), some (vi (k + 1)), some (vi fi), some (vi 1)]) dX3_hearingOf_132 rfl (by decide) rfl rfl (pc' := 135) rfl ?_
                refine X.goto (tgt := 34) dX3_hearingOf_135 (by decide) ?_
                refine X.mask (bs := [true, true, true, true, true, true, true, true, true, false, false]) (ls' := [some (rf a), some (vi f), some (vi m), some (vi s), some (vi al), some (vi c), some (vi l), some (vi o), some (vi (k + 1)), none, none]) rfl ?_
                refine ih34 c l o (k + 1) (by omega) ?_
                have g1 := hwF_in (A := A) (f := f) (m := m) (s := s) hk0 ⟨by omega, by omega⟩
                rw [if_neg (show ¬ 0 ≤ fh A s k by omega)] at g1
                exact ⟨by omega, by omega, by omega, ho, hl, fun z => by omega⟩
              · refine X.iinc (i := 5) (ls' := [some (rf a), some (vi f), some (vi m), some (vi s), some (vi al), some (vi (c + 1)), some (vi l), some (vi o), some (vi k), some (vi fi), some (vi 1)]) dX3_hearingOf_106 rfl (by decide) rfl rfl (pc' := 109) rfl ?_
                refine X.iload (i := 7) rfl dX3_hearingOf_109 (pc' := 111) rfl ?_
                refine X.if_eq (tgt := 125) dX3_hearingOf_111 ⟨by omega, by omega⟩ (by decide) (pc' := 114) rfl (fun c111 => ?_) (fun c111 => ?_)
                · refine X.iconst dX3_hearingOf_125 (pc' := 126) rfl ?_
                  refine X.istore (i := 7) (ls' := [some (rf a), some (vi f), some (vi m), some (vi s), some (vi al), some (vi (c + 1)), some (vi l), some (vi 0), some (vi k), some (vi fi), some (vi 1)]) (hd := dX3_hearingOf_126) (by decide) rfl rfl (pc' := 128) rfl ?_
                  refine X.iload (i := 9) rfl dX3_hearingOf_128 (pc' := 130) rfl ?_
                  refine X.istore (i := 6) (ls' := [some (rf a), some (vi f), some (vi m), some (vi s), some (vi al), some (vi (c + 1)), some (vi fi), some (vi 0), some (vi k), some (vi fi), some (vi 1)]) (hd := dX3_hearingOf_130) (by decide) rfl rfl (pc' := 132) rfl ?_
                  refine X.iinc (i := 8) (ls' := [some (rf a), some (vi f), some (vi m), some (vi s), some (vi al), some (vi (c + 1)), some (vi fi), some (vi 0), some (vi (k + 1)), some (vi fi), some (vi 1)]) dX3_hearingOf_132 rfl (by decide) rfl rfl (pc' := 135) rfl ?_
                  refine X.goto (tgt := 34) dX3_hearingOf_135 (by decide) ?_
                  refine X.mask (bs := [true, true, true, true, true, true, true, true, true, false, false]) (ls' := [some (rf a), some (vi f), some (vi m), some (vi s), some (vi al), some (vi (c + 1)), some (vi fi), some (vi 0), some (vi (k + 1)), none, none]) rfl ?_
                  refine ih34 (c + 1) fi 0 (k + 1) (by omega) ?_
                  have g1 := hwF_in (A := A) (f := f) (m := m) (s := s) hk0 ⟨by omega, by omega⟩
                  rw [if_pos (show 0 ≤ fh A s k by omega)] at g1
                  refine ⟨by omega, by omega, by omega, by omega, by omega, fun z => ?_⟩
                  have hq2 := hq (by omega)
                  obtain ⟨g2, g3, g4, g5⟩ := g1
                  rw [g4, g5]
                  by_cases e1 : o = 1
                  · have hq3 := hq2.2 e1
                    split <;> split <;> omega
                  · rw [if_neg (by omega)]; omega
                · refine X.iload (i := 9) rfl dX3_hearingOf_114 (pc' := 116) rfl ?_
                  refine X.iload (i := 6) rfl dX3_hearingOf_116 (pc' := 118) rfl ?_
                  refine X.icmp_le (tgt := 125) dX3_hearingOf_118 ⟨by omega, by omega⟩ ⟨by omega, by omega⟩ (by decide) (pc' := 121) rfl (fun c118 => ?_) (fun c118 => ?_)
                  · refine X.iconst dX3_hearingOf_125 (pc' := 126) rfl ?_
                    refine X.istore (i := 7) (ls' := [some (rf a), some (vi f), some (vi m), some (vi s), some (vi al), some (vi (c + 1)), some (vi l), some (vi 0), some (vi k), some (vi fi), some (vi 1)]) (hd := dX3_hearingOf_126) (by decide) rfl rfl (pc' := 128) rfl ?_
                    refine X.iload (i := 9) rfl dX3_hearingOf_128 (pc' := 130) rfl ?_
                    refine X.istore (i := 6) (ls' := [some (rf a), some (vi f), some (vi m), some (vi s), some (vi al), some (vi (c + 1)), some (vi fi), some (vi 0), some (vi k), some (vi fi), some (vi 1)]) (hd := dX3_hearingOf_130) (by decide) rfl rfl (pc' := 132) rfl ?_
                    refine X.iinc (i := 8) (ls' := [some (rf a), some (vi f), some (vi m), some (vi s), some (vi al), some (vi (c + 1)), some (vi fi), some (vi 0), some (vi (k + 1)), some (vi fi), some (vi 1)]) dX3_hearingOf_132 rfl (by decide) rfl rfl (pc' := 135) rfl ?_
                    refine X.goto (tgt := 34) dX3_hearingOf_135 (by decide) ?_
                    refine X.mask (bs := [true, true, true, true, true, true, true, true, true, false, false]) (ls' := [some (rf a), some (vi f), some (vi m), some (vi s), some (vi al), some (vi (c + 1)), some (vi fi), some (vi 0), some (vi (k + 1)), none, none]) rfl ?_
                    refine ih34 (c + 1) fi 0 (k + 1) (by omega) ?_
                    have g1 := hwF_in (A := A) (f := f) (m := m) (s := s) hk0 ⟨by omega, by omega⟩
                    rw [if_pos (show 0 ≤ fh A s k by omega)] at g1
                    refine ⟨by omega, by omega, by omega, by omega, by omega, fun z => ?_⟩
                    have hq2 := hq (by omega)
                    obtain ⟨g2, g3, g4, g5⟩ := g1
                    rw [g4, g5]
                    by_cases e1 : o = 1
                    · have hq3 := hq2.2 e1
                      split <;> split <;> omega
                    · rw [if_neg (by omega)]; omega
                  · refine X.iconst dX3_hearingOf_121 (pc' := 122) rfl ?_
                    refine X.goto (tgt := 126) dX3_hearingOf_122 (by decide) ?_
                    refine X.istore (i := 7) (ls' := [some (rf a), some (vi f), some (vi m), some (vi s), some (vi al), some (vi (c + 1)), some (vi l), some (vi 1), some (vi k), some (vi fi), some (vi 1)]) (hd := dX3_hearingOf_126) (by decide) rfl rfl (pc' := 128) rfl ?_
                    refine X.iload (i := 9) rfl dX3_hearingOf_128 (pc' := 130) rfl ?_
                    refine X.istore (i := 6) (ls' := [some (rf a), some (vi f), some (vi m), some (vi s), some (vi al), some (vi (c + 1)), some (vi fi), some (vi 1), some (vi k), some (vi fi), some (vi 1)]) (hd := dX3_hearingOf_130) (by decide) rfl rfl (pc' := 132) rfl ?_
                    refine X.iinc (i := 8) (ls' := [some (rf a), some (vi f), some (vi m), some (vi s), some (vi al), some (vi (c + 1)), some (vi fi), some (vi 1), some (vi (k + 1)), some (vi fi), some (vi 1)]) dX3_hearingOf_132 rfl (by decide) rfl rfl (pc' := 135) rfl ?_
                    refine X.goto (tgt := 34) dX3_hearingOf_135 (by decide) ?_
                    refine X.mask (bs := [true, true, true, true, true, true, true, true, true, false, false]) (ls' := [some (rf a), some (vi f), some (vi m), some (vi s), some (vi al), some (vi (c + 1)), some (vi fi), some (vi 1), some (vi (k + 1)), none, none]) rfl ?_
                    refine ih34 (c + 1) fi 1 (k + 1) (by omega) ?_
                    have g1 := hwF_in (A := A) (f := f) (m := m) (s := s) hk0 ⟨by omega, by omega⟩
                    rw [if_pos (show 0 ≤ fh A s k by omega)] at g1
                    refine ⟨by omega, by omega, by omega, by omega, by omega, fun z => ?_⟩
                    have hq2 := hq (by omega)
                    obtain ⟨g2, g3, g4, g5⟩ := g1
                    rw [g4, g5]
                    by_cases e1 : o = 1
                    · have hq3 := hq2.2 e1
                      split <;> split <;> omega
                    · rw [if_neg (by omega)]; omega
    refine L34 _ 0 ((-1)) 1 0 (Nat.lt_succ_self _) ?_
    exact ⟨by omega, by omega, rfl, Or.inr rfl, by omega, fun _ => ⟨rfl, fun _ => rfl⟩⟩
  · refine X.iconst dX3_hearingOf_20 (pc' := 21) rfl ?_
    refine X.iret dX3_hearingOf_21 (Or.inl rfl) (Nat.le_of_ble_eq_true rfl) (Nat.le_of_ble_eq_true rfl) ?_
    subst hPR
    refine ⟨rfl, _, rfl, ?_⟩
    unfold how
    rw [if_pos (by omega)]
set_option maxHeartbeats 4000000 in
set_option maxRecDepth 100000 in
theorem k_X3_ofWord {Ω : xO} {h : xM} {a b : Nat} {A : aS} {n w : Int} (hP : RpS h a b) (hR : RC h b A) (hn : 0 ≤ n ∧ n < aW A) (hw : 0 ≤ w ∧ w ≤ 5) : xCt Ω yX3_ofWord cX3_ofWord 3 (some .int) rm_X3_ofWord [rf a, vi n, vi w] h (fun q h' => h = h' ∧ ∃ r, q = some (vi r) ∧ r = oWd A n w) xNo := by
  refine xCt_of (ini := false) (by decide +kernel) (Nat.le_of_ble_eq_true rfl) (fun q => absurd q (by decide)) ?_
  generalize hPR : (fun q h' => h = h' ∧ ∃ r, q = some (vi r) ∧ r = oWd A n w : Option xV → xM → Prop) = PR
  have K0 : X Ω RX3 cX3_ofWord 3 (some .int) false rm_X3_ofWord PR xNo 0 0 0 [some (rf a), some (vi n), some (vi w)] [] h := ?_
  exact K0
  have okA : aOK A := hR.1.2.1
  obtain ⟨okB, okN, okWl, okS, okW, okM, okC, okH⟩ := id hR.1.2.1
  refine X.iload_n (i := 2) rfl rfl dX3_ofWord_0 (pc' := 1) rfl ?_
  rcases (show w = 0 ∨ w = 1 ∨ w = 2 ∨ w = 3 ∨ w = 4 ∨ (w < 0 ∨ 4 < w) by omega) with sw1 | sw1 | sw1 | sw1 | sw1 | sw1
  · refine X.tableIn (tgt := 36) (off := 35) dX3_ofWord_1 ⟨by omega, by omega⟩ (by omega) (by omega) (by rw [sw1]; rfl) (by decide) ?_
    refine X.aload_n (i := 0) rfl rfl dX3_ofWord_36 (pc' := 37) rfl ?_
    refine X.getR fk_X3_9 xcl_3 dX3_ofWord_37 hP.1 hP.2 (pc' := 40) rfl ?_
    refine X.getR fk_X3_15 xcl_0 dX3_ofWord_40 hR.1.1.1 hR.1.1.2.2.2.1.1 (pc' := 43) rfl ?_
    refine X.iload_n (i := 1) rfl rfl dX3_ofWord_43 (pc' := 44) rfl ?_
    refine X.iald (x := aSe A n) dX3_ofWord_44 hR.1.1.2.2.2.1.2 (by omega) (by omega) ⟨by omega, by omega⟩ (hR.1.2.2.2.2.2.2.1 n (by omega) (by omega)) (pc' := 45) rfl (fun r2 => ?_)
    obtain ⟨r2a, r2b⟩ := r2
    have r2c := hR.1.2.1.2.2.2.2.1 n (by omega) (by omega)
    refine X.iret dX3_ofWord_45 (Or.inl rfl) (Nat.le_of_ble_eq_true rfl) (Nat.le_of_ble_eq_true rfl) ?_
    subst hPR
    subst sw1
    exact ⟨rfl, _, rfl, rfl⟩
  · refine X.tableIn (tgt := 46) (off := 45) dX3_ofWord_1 ⟨by omega, by omega⟩ (by omega) (by omega) (by rw [sw1]; rfl) (by decide) ?_
    refine X.aload_n (i := 0) rfl rfl dX3_ofWord_46 (pc' := 47) rfl ?_
    refine X.getR fk_X3_9 xcl_3 dX3_ofWord_47 hP.1 hP.2 (pc' := 50) rfl ?_
    refine X.getR fk_X3_21 xcl_0 dX3_ofWord_50 hR.1.1.1 hR.1.1.2.2.2.2.1.1 (pc' := 53) rfl ?_
    refine X.iload_n (i := 1) rfl rfl dX3_ofWord_53 (pc' := 54) rfl ?_
    refine X.iald (x := aWo A n) dX3_ofWord_54 hR.1.1.2.2.2.2.1.2 (by omega) (by omega) ⟨by omega, by omega⟩ (hR.1.2.2.2.2.2.2.2.1 n (by omega) (by omega)) (pc' := 55) rfl (fun r3 => ?_)
    obtain ⟨r3a, r3b⟩ := r3
    have r3c := hR.1.2.1.2.2.2.2.1 n (by omega) (by omega)
    refine X.iret dX3_ofWord_55 (Or.inl rfl) (Nat.le_of_ble_eq_true rfl) (Nat.le_of_ble_eq_true rfl) ?_
    subst hPR
    subst sw1
    exact ⟨rfl, _, rfl, rfl⟩
  · refine X.tableIn (tgt := 56) (off := 55) dX3_ofWord_1 ⟨by omega, by omega⟩ (by omega) (by omega) (by rw [sw1]; rfl) (by decide) ?_
    refine X.aload_n (i := 0) rfl rfl dX3_ofWord_56 (pc' := 57) rfl ?_
    refine X.getR fk_X3_9 xcl_3 dX3_ofWord_57 hP.1 hP.2 (pc' := 60) rfl ?_
    refine X.getR fk_X3_24 xcl_0 dX3_ofWord_60 hR.1.1.1 hR.1.1.2.2.2.2.2.1.1 (pc' := 63) rfl ?_
    refine X.iload_n (i := 1) rfl rfl dX3_ofWord_63 (pc' := 64) rfl ?_
    refine X.iald (x := aMa A n) dX3_ofWord_64 hR.1.1.2.2.2.2.2.1.2 (by omega) (by omega) ⟨by omega, by omega⟩ (hR.1.2.2.2.2.2.2.2.2.1 n (by omega) (by omega)) (pc' := 65) rfl (fun r4 => ?_)
    obtain ⟨r4a, r4b⟩ := r4
    have r4c := hR.1.2.1.2.2.2.2.1 n (by omega) (by omega)
    refine X.iret dX3_ofWord_65 (Or.inl rfl) (Nat.le_of_ble_eq_true rfl) (Nat.le_of_ble_eq_true rfl) ?_
    subst hPR
    subst sw1
    exact ⟨rfl, _, rfl, rfl⟩
  · refine X.tableIn (tgt := 66) (off := 65) dX3_ofWord_1 ⟨by omega, by omega⟩ (by omega) (by omega) (by rw [sw1]; rfl) (by decide) ?_
    refine X.aload_n (i := 0) rfl rfl dX3_ofWord_66 (pc' := 67) rfl ?_
    refine X.getR fk_X3_9 xcl_3 dX3_ofWord_67 hP.1 hP.2 (pc' := 70) rfl ?_
    refine X.getR fk_X3_27 xcl_0 dX3_ofWord_70 hR.1.1.1 hR.1.1.2.2.2.2.2.2.1.1 (pc' := 73) rfl ?_
    refine X.iload_n (i := 1) rfl rfl dX3_ofWord_73 (pc' := 74) rfl ?_
    refine X.iald (x := aAt A n) dX3_ofWord_74 hR.1.1.2.2.2.2.2.2.1.2 (by omega) (by omega) ⟨by omega, by omega⟩ (hR.1.2.2.2.2.2.2.2.2.2.1 n (by omega) (by omega)) (pc' := 75) rfl (fun r5 => ?_)
    obtain ⟨r5a, r5b⟩ := r5
    have r5c := hR.1.2.1.2.2.2.2.1 n (by omega) (by omega)
    refine X.iret dX3_ofWord_75 (Or.inl rfl) (Nat.le_of_ble_eq_true rfl) (Nat.le_of_ble_eq_true rfl) ?_
    subst hPR
    subst sw1
    exact ⟨rfl, _, rfl, rfl⟩
  · refine X.tableIn (tgt := 76) (off := 75) dX3_ofWord_1 ⟨by omega, by omega⟩ (by omega) (by omega) (by rw [sw1]; rfl) (by decide) ?_
    refine X.aload_n (i := 0) rfl rfl dX3_ofWord_76 (pc' := 77) rfl ?_
    refine X.aload_n (i := 0) rfl rfl dX3_ofWord_77 (pc' := 78) rfl ?_
    refine X.getR fk_X3_9 xcl_3 dX3_ofWord_78 hP.1 hP.2 (pc' := 81) rfl ?_
    refine X.getR fk_X3_30 xcl_0 dX3_ofWord_81 hR.1.1.1 hR.1.1.2.2.2.2.2.2.2.1.1 (pc' := 84) rfl ?_
    refine X.iload_n (i := 1) rfl rfl dX3_ofWord_84 (pc' := 85) rfl ?_
    refine X.callV (ci := 3) (a := a) (rm := rm_X3_maskOf) (As := [rf ((b + 7)), vi n]) (st := []) dX3_ofWord_85 ck_X3_34 rfl (by decide) hP.1 rfl rfl ⟨Nat.le_of_ble_eq_true rfl, Nat.le_of_ble_eq_true rfl⟩ (Nat.le_of_ble_eq_true rfl) (Nat.le_of_ble_eq_true rfl) (Nat.le_of_ble_eq_true rfl) (pc' := 88) rfl (k_X3_maskOf (f := fun s => aCo A s n) ⟨hR.1.1.2.2.2.2.2.2.2.1.2, hR.1.1.2.2.2.2.2.2.2.2.2.2.2.1⟩ ⟨by omega, by omega⟩ (fun s h1 h2 => hR.1.2.2.2.2.2.2.2.2.2.2 s n h1 h2 (by omega) (by omega))) (fun q6 hq6 eq6 => ?_) (fun _ _ x1 => x1.elim)
    obtain ⟨rfl, r7, rfl, hr7⟩ := eq6
    refine X.iret dX3_ofWord_88 (Or.inl rfl) (Nat.le_of_ble_eq_true rfl) (Nat.le_of_ble_eq_true rfl) ?_
    subst hPR
    subst sw1
    exact ⟨rfl, _, rfl, hr7⟩
  · refine X.tableOut (tgt := 89) dX3_ofWord_1 ⟨by omega, by omega⟩ sw1 (by decide) ?_
    refine X.aload_n (i := 0) rfl rfl dX3_ofWord_89 (pc' := 90) rfl ?_
    refine X.aload_n (i := 0) rfl rfl dX3_ofWord_90 (pc' := 91) rfl ?_
    refine X.getR fk_X3_9 xcl_3 dX3_ofWord_91 hP.1 hP.2 (pc' := 94) rfl ?_
    refine X.getR fk_X3_38 xcl_0 dX3_ofWord_94 hR.1.1.1 hR.1.1.2.2.2.2.2.2.2.2.1.1 (pc' := 97) rfl ?_
    refine X.iload_n (i := 1) rfl rfl dX3_ofWord_97 (pc' := 98) rfl ?_
    refine X.callV (ci := 3) (a := a) (rm := rm_X3_maskOf) (As := [rf ((b + 14)), vi n]) (st := []) dX3_ofWord_98 ck_X3_34 rfl (by decide) hP.1 rfl rfl ⟨Nat.le_of_ble_eq_true rfl, Nat.le_of_ble_eq_true rfl⟩ (Nat.le_of_ble_eq_true rfl) (Nat.le_of_ble_eq_true rfl) (Nat.le_of_ble_eq_true rfl) (pc' := 101) rfl (k_X3_maskOf (f := fun s => fh A s n) ⟨hR.1.1.2.2.2.2.2.2.2.2.1.2, hR.1.1.2.2.2.2.2.2.2.2.2.2.2.2.1⟩ ⟨by omega, by omega⟩ (fun s h1 h2 => hR.2.1 s n h1 h2 (by omega) (by omega))) (fun q8 hq8 eq8 => ?_) (fun _ _ x1 => x1.elim)
    obtain ⟨rfl, r9, rfl, hr9⟩ := eq8
    refine X.iret dX3_ofWord_101 (Or.inl rfl) (Nat.le_of_ble_eq_true rfl) (Nat.le_of_ble_eq_true rfl) ?_
    subst hPR
    have e : w = 5 := by omega
    subst e
    exact ⟨rfl, _, rfl, hr9⟩
set_option maxHeartbeats 4000000 in
set_option maxRecDepth 100000 in
theorem k_X3_ofBeat {Ω : xO} {h : xM} {a b : Nat} {A : aS} {s k w : Int} (hP : RpS h a b) (hR : RC h b A) (hs : 0 ≤ s ∧ s < 6) (hk : 0 ≤ k ∧ k < aB A) (hw : 0 ≤ w ∧ w ≤ 2) : xCt Ω yX3_ofBeat cX3_ofBeat 5 (some .int) rm_X3_ofBeat [rf a, vi s, vi k, vi w] h (fun q h' => h = h' ∧ ∃ r, q = some (vi r) ∧ r = oBt A s k w) xNo := by
  refine xCt_of (ini := false) (by decide +kernel) (Nat.le_of_ble_eq_true rfl) (fun q => absurd q (by decide)) ?_
  generalize hPR : (fun q h' => h = h' ∧ ∃ r, q = some (vi r) ∧ r = oBt A s k w : Option xV → xM → Prop) = PR
  have K0 : X Ω RX3 cX3_ofBeat 5 (some .int) false rm_X3_ofBeat PR xNo 0 0 0 [some (rf a), some (vi s), some (vi k), some (vi w), none] [] h := ?_
  exact K0
  have okA : aOK A := hR.1.2.1
  obtain ⟨okB, okN, okWl, okS, okW, okM, okC, okH⟩ := id hR.1.2.1
  refine X.aload_n (i := 0) rfl rfl dX3_ofBeat_0 (pc' := 1) rfl ?_
  refine X.getR fk_X3_9 xcl_3 dX3_ofBeat_1 hP.1 hP.2 (pc' := 4) rfl ?_
  refine X.getR fk_X3_41 xcl_0 dX3_ofBeat_4 hR.1.1.1 hR.1.1.2.2.2.2.2.2.2.2.2.1.1 (pc' := 7) rfl ?_
  refine X.iload_n (i := 1) rfl rfl dX3_ofBeat_7 (pc' := 8) rfl ?_
  refine X.aald13 dX3_ofBeat_8 hR.1.1.2.2.2.2.2.2.2.2.2.1.2 (by omega) (by omega) ⟨by omega, by omega⟩ (hR.1.1.2.2.2.2.2.2.2.2.2.2.2.2.2 (s) (by omega) (by omega)).1 (pc' := 9) rfl ?_
  refine X.iload_n (i := 2) rfl rfl dX3_ofBeat_9 (pc' := 10) rfl ?_
  refine X.iald (x := aHe A s k) dX3_ofBeat_10 (hR.1.1.2.2.2.2.2.2.2.2.2.2.2.2.2 (s) (by omega) (by omega)).2 (by omega) (by omega) ⟨by omega, by omega⟩ (hR.2.2.1 s k (by omega) (by omega) (by omega) (by omega)) (pc' := 11) rfl (fun r1 => ?_)
  obtain ⟨r1a, r1b⟩ := r1
  have r1c := hR.1.2.1.2.2.2.2.2.2.2 s k (by omega) (by omega) (by omega) (by omega)
  refine X.gen (fun x hx => ?_)
  refine X.istore (i := 4) (ls' := [some (rf a), some (vi s), some (vi k), some (vi w), some (vi x)]) (hd := dX3_ofBeat_11) (by decide) rfl rfl (pc' := 13) rfl ?_
  refine X.iload (i := 4) rfl dX3_ofBeat_13 (pc' := 15) rfl ?_
  refine X.iconst dX3_ofBeat_15 (pc' := 16) rfl ?_
  refine X.icmp_eq (tgt := 23) dX3_ofBeat_16 ⟨by omega, by omega⟩ ⟨by omega, by omega⟩ (by decide) (pc' := 19) rfl (fun c16 => ?_) (fun c16 => ?_)
  · refine X.iload (i := 4) rfl dX3_ofBeat_23 (pc' := 25) rfl ?_
    refine X.iret dX3_ofBeat_25 (Or.inl rfl) (Nat.le_of_ble_eq_true rfl) (Nat.le_of_ble_eq_true rfl) ?_
    subst hPR
    refine ⟨rfl, _, rfl, ?_⟩
    subst hx
    unfold oBt
    rw [if_pos (by omega)]; omega
  · refine X.iload_n (i := 3) rfl rfl dX3_ofBeat_19 (pc' := 20) rfl ?_
    refine X.if_ne (tgt := 26) dX3_ofBeat_20 ⟨by omega, by omega⟩ (by decide) (pc' := 23) rfl (fun c20 => ?_) (fun c20 => ?_)
    · refine X.iload_n (i := 3) rfl rfl dX3_ofBeat_26 (pc' := 27) rfl ?_
      refine X.iconst dX3_ofBeat_27 (pc' := 28) rfl ?_
      refine X.icmp_ne (tgt := 42) dX3_ofBeat_28 ⟨by omega, by omega⟩ ⟨by omega, by omega⟩ (by decide) (pc' := 31) rfl (fun c28 => ?_) (fun c28 => ?_)
      · refine X.aload_n (i := 0) rfl rfl dX3_ofBeat_42 (pc' := 43) rfl ?_
        refine X.iload_n (i := 1) rfl rfl dX3_ofBeat_43 (pc' := 44) rfl ?_
        refine X.iload_n (i := 2) rfl rfl dX3_ofBeat_44 (pc' := 45) rfl ?_
        refine X.callV (ci := 3) (a := a) (rm := rm_X3_isRepeated) (As := [vi s, vi k]) (st := []) dX3_ofBeat_45 ck_X3_44 rfl (by decide) hP.1 rfl rfl ⟨Nat.le_of_ble_eq_true rfl, Nat.le_of_ble_eq_true rfl⟩ (Nat.le_of_ble_eq_true rfl) (Nat.le_of_ble_eq_true rfl) (Nat.le_of_ble_eq_true rfl) (pc' := 48) rfl (k_X3_isRepeated hP hR hs hk) (fun q2 hq2 eq2 => ?_) (fun _ _ x1 => x1.elim)
        obtain ⟨rfl, r3, rfl, hr3⟩ := eq2
        refine X.if_eq (tgt := 55) dX3_ofBeat_48 ⟨by omega, by omega⟩ (by decide) (pc' := 51) rfl (fun c48 => ?_) (fun c48 => ?_)
        · refine X.iconst dX3_ofBeat_55 (pc' := 56) rfl ?_
          refine X.iret dX3_ofBeat_56 (Or.inl rfl) (Nat.le_of_ble_eq_true rfl) (Nat.le_of_ble_eq_true rfl) ?_
          subst hPR
          refine ⟨rfl, _, rfl, ?_⟩
          subst hx
          unfold oBt
          rw [if_neg (by omega)]
          rw [if_neg (by omega)]
          rw [if_neg (by omega)]
          rw [if_neg (by omega)]
        · refine X.iconst dX3_ofBeat_51 (pc' := 52) rfl ?_
          refine X.goto (tgt := 56) dX3_ofBeat_52 (by decide) ?_
          refine X.iret dX3_ofBeat_56 (Or.inl rfl) (Nat.le_of_ble_eq_true rfl) (Nat.le_of_ble_eq_true rfl) ?_
          subst hPR
          refine ⟨rfl, _, rfl, ?_⟩
          subst hx
          unfold oBt
          rw [if_neg (by omega)]
          rw [if_neg (by omega)]
          rw [if_neg (by omega)]
          rw [if_pos (by omega)]
      · refine X.aload_n (i := 0) rfl rfl dX3_ofBeat_31 (pc' := 32) rfl ?_
        refine X.getR fk_X3_9 xcl_3 dX3_ofBeat_32 hP.1 hP.2 (pc' := 35) rfl ?_
        refine X.getR fk_X3_21 xcl_0 dX3_ofBeat_35 hR.1.1.1 hR.1.1.2.2.2.2.1.1 (pc' := 38) rfl ?_
        refine X.iload (i := 4) rfl dX3_ofBeat_38 (pc' := 40) rfl ?_
        refine X.iald (x := aWo A x) dX3_ofBeat_40 hR.1.1.2.2.2.2.1.2 (by omega) (by omega) ⟨by omega, by omega⟩ (hR.1.2.2.2.2.2.2.2.1 x (by omega) (by omega)) (pc' := 41) rfl (fun r4 => ?_)
        obtain ⟨r4a, r4b⟩ := r4
        have r4c := hR.1.2.1.2.2.2.2.1 x (by omega) (by omega)
        refine X.iret dX3_ofBeat_41 (Or.inl rfl) (Nat.le_of_ble_eq_true rfl) (Nat.le_of_ble_eq_true rfl) ?_
        subst hPR
        refine ⟨rfl, _, rfl, ?_⟩
        subst hx
        unfold oBt
        rw [if_neg (by omega)]
        rw [if_neg (by omega)]
        rw [if_pos (by omega)]
    · refine X.iload (i := 4) rfl dX3_ofBeat_23 (pc' := 25) rfl ?_
      refine X.iret dX3_ofBeat_25 (Or.inl rfl) (Nat.le_of_ble_eq_true rfl) (Nat.le_of_ble_eq_true rfl) ?_
      subst hPR
      refine ⟨rfl, _, rfl, ?_⟩
      subst hx
      unfold oBt
      rw [if_neg (by omega)]
      rw [if_pos (by omega)]
set_option maxHeartbeats 4000000 in
set_option maxRecDepth 100000 in
theorem k_X3_ofSpeaker {Ω : xO} {h : xM} {a b : Nat} {A : aS} {s w : Int} (hP : RpS h a b) (hR : RC h b A) (hs : 0 ≤ s ∧ s < 6) (hw : 0 ≤ w ∧ w ≤ 7) : xCt Ω yX3_ofSpeaker cX3_ofSpeaker 3 (some .int) rm_X3_ofSpeaker [rf a, vi s, vi w] h (fun q h' => h = h' ∧ ∃ r, q = some (vi r) ∧ r = oSp A s w) xNo := by
  refine xCt_of (ini := false) (by decide +kernel) (Nat.le_of_ble_eq_true rfl) (fun q => absurd q (by decide)) ?_
  generalize hPR : (fun q h' => h = h' ∧ ∃ r, q = some (vi r) ∧ r = oSp A s w : Option xV → xM → Prop) = PR
  have K0 : X Ω RX3 cX3_ofSpeaker 3 (some .int) false rm_X3_ofSpeaker PR xNo 0 0 0 [some (rf a), some (vi s), some (vi w)] [] h := ?_
  exact K0
  have okA : aOK A := hR.1.2.1
  obtain ⟨okB, okN, okWl, okS, okW, okM, okC, okH⟩ := id hR.1.2.1
  refine X.iload_n (i := 2) rfl rfl dX3_ofSpeaker_0 (pc' := 1) rfl ?_
  rcases (show w = 0 ∨ w = 1 ∨ w = 2 ∨ w = 3 ∨ w = 4 ∨ w = 5 ∨ w = 6 ∨ (w < 0 ∨ 6 < w) by omega) with sw1 | sw1 | sw1 | sw1 | sw1 | sw1 | sw1 | sw1
  · refine X.tableIn (tgt := 44) (off := 43) dX3_ofSpeaker_1 ⟨by omega, by omega⟩ (by omega) (by omega) (by rw [sw1]; rfl) (by decide) ?_
    refine X.aload_n (i := 0) rfl rfl dX3_ofSpeaker_44 (pc' := 45) rfl ?_
    refine X.getR fk_X3_9 xcl_3 dX3_ofSpeaker_45 hP.1 hP.2 (pc' := 48) rfl ?_
    refine X.getR fk_X3_48 xcl_0 dX3_ofSpeaker_48 hR.1.1.1 hR.1.1.2.1.1 (pc' := 51) rfl ?_
    refine X.iload_n (i := 1) rfl rfl dX3_ofSpeaker_51 (pc' := 52) rfl ?_
    refine X.iald (x := aWl A s) dX3_ofSpeaker_52 hR.1.1.2.1.2 (by omega) (by omega) ⟨by omega, by omega⟩ (hR.1.2.2.2.2.1 s (by omega) (by omega)) (pc' := 53) rfl (fun r2 => ?_)
    obtain ⟨r2a, r2b⟩ := r2
    have r2c := hR.1.2.1.2.2.1 s (by omega) (by omega)
    refine X.iret dX3_ofSpeaker_53 (Or.inl rfl) (Nat.le_of_ble_eq_true rfl) (Nat.le_of_ble_eq_true rfl) ?_
    subst hPR
    subst sw1
    exact ⟨rfl, _, rfl, rfl⟩
  · refine X.tableIn (tgt := 54) (off := 53) dX3_ofSpeaker_1 ⟨by omega, by omega⟩ (by omega) (by omega) (by rw [sw1]; rfl) (by decide) ?_
    refine X.aload_n (i := 0) rfl rfl dX3_ofSpeaker_54 (pc' := 55) rfl ?_
    refine X.iload_n (i := 1) rfl rfl dX3_ofSpeaker_55 (pc' := 56) rfl ?_
    refine X.callV (ci := 3) (a := a) (rm := rm_X3_heardBeats) (As := [vi s]) (st := []) dX3_ofSpeaker_56 ck_X3_51 rfl (by decide) hP.1 rfl rfl ⟨Nat.le_of_ble_eq_true rfl, Nat.le_of_ble_eq_true rfl⟩ (Nat.le_of_ble_eq_true rfl) (Nat.le_of_ble_eq_true rfl) (Nat.le_of_ble_eq_true rfl) (pc' := 59) rfl (k_X3_heardBeats hP hR hs) (fun q3 hq3 eq3 => ?_) (fun _ _ x1 => x1.elim)
    obtain ⟨rfl, r4, rfl, hr4⟩ := eq3
    refine X.iret dX3_ofSpeaker_59 (Or.inl rfl) (Nat.le_of_ble_eq_true rfl) (Nat.le_of_ble_eq_true rfl) ?_
    subst hPR
    subst sw1
    exact ⟨rfl, _, rfl, hr4⟩
  · refine X.tableIn (tgt := 60) (off := 59) dX3_ofSpeaker_1 ⟨by omega, by omega⟩ (by omega) (by omega) (by rw [sw1]; rfl) (by decide) ?_
    refine X.aload_n (i := 0) rfl rfl dX3_ofSpeaker_60 (pc' := 61) rfl ?_
    refine X.iload_n (i := 1) rfl rfl dX3_ofSpeaker_61 (pc' := 62) rfl ?_
    refine X.callV (ci := 3) (a := a) (rm := rm_X3_heardWordsByBeats) (As := [vi s]) (st := []) dX3_ofSpeaker_62 ck_X3_55 rfl (by decide) hP.1 rfl rfl ⟨Nat.le_of_ble_eq_true rfl, Nat.le_of_ble_eq_true rfl⟩ (Nat.le_of_ble_eq_true rfl) (Nat.le_of_ble_eq_true rfl) (Nat.le_of_ble_eq_true rfl) (pc' := 65) rfl (k_X3_heardWordsByBeats hP hR hs) (fun q5 hq5 eq5 => ?_) (fun _ _ x1 => x1.elim)
    obtain ⟨rfl, r6, rfl, hr6⟩ := eq5
    refine X.iret dX3_ofSpeaker_65 (Or.inl rfl) (Nat.le_of_ble_eq_true rfl) (Nat.le_of_ble_eq_true rfl) ?_
    subst hPR
    subst sw1
    exact ⟨rfl, _, rfl, hr6.trans (hWb_eq okA hs.1 hs.2)⟩
  · refine X.tableIn (tgt := 66) (off := 65) dX3_ofSpeaker_1 ⟨by omega, by omega⟩ (by omega) (by omega) (by rw [sw1]; rfl) (by decide) ?_
    refine X.aload_n (i := 0) rfl rfl dX3_ofSpeaker_66 (pc' := 67) rfl ?_
    refine X.iload_n (i := 1) rfl rfl dX3_ofSpeaker_67 (pc' := 68) rfl ?_
    refine X.callV (ci := 3) (a := a) (rm := rm_X3_repeatedBeats) (As := [vi s]) (st := []) dX3_ofSpeaker_68 ck_X3_58 rfl (by decide) hP.1 rfl rfl ⟨Nat.le_of_ble_eq_true rfl, Nat.le_of_ble_eq_true rfl⟩ (Nat.le_of_ble_eq_true rfl) (Nat.le_of_ble_eq_true rfl) (Nat.le_of_ble_eq_true rfl) (pc' := 71) rfl (k_X3_repeatedBeats hP hR hs) (fun q7 hq7 eq7 => ?_) (fun _ _ x1 => x1.elim)
    obtain ⟨rfl, r8, rfl, hr8⟩ := eq7
    refine X.iret dX3_ofSpeaker_71 (Or.inl rfl) (Nat.le_of_ble_eq_true rfl) (Nat.le_of_ble_eq_true rfl) ?_
    subst hPR
    subst sw1
    exact ⟨rfl, _, rfl, hr8⟩
  · refine X.tableIn (tgt := 72) (off := 71) dX3_ofSpeaker_1 ⟨by omega, by omega⟩ (by omega) (by omega) (by rw [sw1]; rfl) (by decide) ?_
    refine X.aload_n (i := 0) rfl rfl dX3_ofSpeaker_72 (pc' := 73) rfl ?_
    refine X.getR fk_X3_9 xcl_3 dX3_ofSpeaker_73 hP.1 hP.2 (pc' := 76) rfl ?_
    refine X.getI (x := aB A) fk_X3_61 xcl_0 dX3_ofSpeaker_76 (by decide) hR.1.1.1 hR.1.2.2.1 (pc' := 79) rfl (fun r9 => ?_)
    obtain ⟨r9a, r9b⟩ := r9
    refine X.aload_n (i := 0) rfl rfl dX3_ofSpeaker_79 (pc' := 80) rfl ?_
    refine X.iload_n (i := 1) rfl rfl dX3_ofSpeaker_80 (pc' := 81) rfl ?_
    refine X.callV (ci := 3) (a := a) (rm := rm_X3_heardBeats) (As := [vi s]) (st := [vi (aB A)]) dX3_ofSpeaker_81 ck_X3_51 rfl (by decide) hP.1 rfl rfl ⟨Nat.le_of_ble_eq_true rfl, Nat.le_of_ble_eq_true rfl⟩ (Nat.le_of_ble_eq_true rfl) (Nat.le_of_ble_eq_true rfl) (Nat.le_of_ble_eq_true rfl) (pc' := 84) rfl (k_X3_heardBeats hP hR hs) (fun q10 hq10 eq10 => ?_) (fun _ _ x1 => x1.elim)
    obtain ⟨rfl, r11, rfl, hr11⟩ := eq10
    refine X.isub dX3_ofSpeaker_84 (pc' := 85) rfl ?_
    refine X.iret dX3_ofSpeaker_85 (Or.inl rfl) (Nat.le_of_ble_eq_true rfl) (Nat.le_of_ble_eq_true rfl) ?_
    subst hPR
    subst sw1
    refine ⟨rfl, _, rfl, ?_⟩
    show _ = aB A - hBt A s
    omega
  · refine X.tableIn (tgt := 86) (off := 85) dX3_ofSpeaker_1 ⟨by omega, by omega⟩ (by omega) (by omega) (by rw [sw1]; rfl) (by decide) ?_
    refine X.aload_n (i := 0) rfl rfl dX3_ofSpeaker_86 (pc' := 87) rfl ?_
    refine X.iload_n (i := 1) rfl rfl dX3_ofSpeaker_87 (pc' := 88) rfl ?_
    refine X.callV (ci := 3) (a := a) (rm := rm_X3_gaps) (As := [vi s]) (st := []) dX3_ofSpeaker_88 ck_X3_65 rfl (by decide) hP.1 rfl rfl ⟨Nat.le_of_ble_eq_true rfl, Nat.le_of_ble_eq_true rfl⟩ (Nat.le_of_ble_eq_true rfl) (Nat.le_of_ble_eq_true rfl) (Nat.le_of_ble_eq_true rfl) (pc' := 91) rfl (k_X3_gaps hP hR hs) (fun q12 hq12 eq12 => ?_) (fun _ _ x1 => x1.elim)
    obtain ⟨rfl, r13, rfl, hr13⟩ := eq12
    refine X.iret dX3_ofSpeaker_91 (Or.inl rfl) (Nat.le_of_ble_eq_true rfl) (Nat.le_of_ble_eq_true rfl) ?_
    subst hPR
    subst sw1
    exact ⟨rfl, _, rfl, hr13⟩
  · refine X.tableIn (tgt := 92) (off := 91) dX3_ofSpeaker_1 ⟨by omega, by omega⟩ (by omega) (by omega) (by rw [sw1]; rfl) (by decide) ?_
    refine X.aload_n (i := 0) rfl rfl dX3_ofSpeaker_92 (pc' := 93) rfl ?_
    refine X.iload_n (i := 1) rfl rfl dX3_ofSpeaker_93 (pc' := 94) rfl ?_
    refine X.callV (ci := 3) (a := a) (rm := rm_X3_wordsSaidBy) (As := [vi s]) (st := []) dX3_ofSpeaker_94 ck_X3_68 rfl (by decide) hP.1 rfl rfl ⟨Nat.le_of_ble_eq_true rfl, Nat.le_of_ble_eq_true rfl⟩ (Nat.le_of_ble_eq_true rfl) (Nat.le_of_ble_eq_true rfl) (Nat.le_of_ble_eq_true rfl) (pc' := 97) rfl (k_X3_wordsSaidBy hP hR hs) (fun q14 hq14 eq14 => ?_) (fun _ _ x1 => x1.elim)
    obtain ⟨rfl, r15, rfl, hr15⟩ := eq14
    refine X.iret dX3_ofSpeaker_97 (Or.inl rfl) (Nat.le_of_ble_eq_true rfl) (Nat.le_of_ble_eq_true rfl) ?_
    subst hPR
    subst sw1
    exact ⟨rfl, _, rfl, hr15⟩
  · refine X.tableOut (tgt := 98) dX3_ofSpeaker_1 ⟨by omega, by omega⟩ sw1 (by decide) ?_
    refine X.aload_n (i := 0) rfl rfl dX3_ofSpeaker_98 (pc' := 99) rfl ?_
    refine X.iload_n (i := 1) rfl rfl dX3_ofSpeaker_99 (pc' := 100) rfl ?_
    refine X.callV (ci := 3) (a := a) (rm := rm_X3_heardWordsByWords) (As := [vi s]) (st := []) dX3_ofSpeaker_100 ck_X3_71 rfl (by decide) hP.1 rfl rfl ⟨Nat.le_of_ble_eq_true rfl, Nat.le_of_ble_eq_true rfl⟩ (Nat.le_of_ble_eq_true rfl) (Nat.le_of_ble_eq_true rfl) (Nat.le_of_ble_eq_true rfl) (pc' := 103) rfl (k_X3_heardWordsByWords hP hR hs) (fun q16 hq16 eq16 => ?_) (fun _ _ x1 => x1.elim)
    obtain ⟨rfl, r17, rfl, hr17⟩ := eq16
    refine X.iret dX3_ofSpeaker_103 (Or.inl rfl) (Nat.le_of_ble_eq_true rfl) (Nat.le_of_ble_eq_true rfl) ?_
    subst hPR
    have e : w = 7 := by omega
    subst e
    exact ⟨rfl, _, rfl, hr17⟩
set_option maxHeartbeats 4000000 in
set_option maxRecDepth 100000 in
theorem k_X3_wordsHeardByMask {Ω : xO} {h : xM} {a b : Nat} {A : aS} {m : Int} (hP : RpS h a b) (hR : RC h b A) (hm : 0 ≤ m ∧ m ≤ 63) : xCt Ω yX3_wordsHeardByMask cX3_wordsHeardByMask 4 (some .int) rm_X3_wordsHeardByMask [rf a, vi m] h (fun q h' => h = h' ∧ ∃ r, q = some (vi r) ∧ r = mWd A m) xNo := by
  refine xCt_of (ini := false) (by decide +kernel) (Nat.le_of_ble_eq_true rfl) (fun q => absurd q (by decide)) ?_
  generalize hPR : (fun q h' => h = h' ∧ ∃ r, q = some (vi r) ∧ r = mWd A m : Option xV → xM → Prop) = PR
  have K0 : X Ω RX3 cX3_wordsHeardByMask 4 (some .int) false rm_X3_wordsHeardByMask PR xNo 0 0 0 [some (rf a), some (vi m), none, none] [] h := ?_
  exact K0
  have okA : aOK A := hR.1.2.1
  obtain ⟨okB, okN, okWl, okS, okW, okM, okC, okH⟩ := id hR.1.2.1
  refine X.iconst dX3_wordsHeardByMask_0 (pc' := 1) rfl ?_
  refine X.istore_n (i := 2) (ls' := [some (rf a), some (vi m), some (vi 0), none]) (hi := rfl) (hd := dX3_wordsHeardByMask_1) (by decide) rfl rfl (pc' := 2) rfl ?_
  refine X.iconst dX3_wordsHeardByMask_2 (pc' := 3) rfl ?_
  refine X.istore_n (i := 3) (ls' := [some (rf a), some (vi m), some (vi 0), some (vi 0)]) (hi := rfl) (hd := dX3_wordsHeardByMask_3) (by decide) rfl rfl (pc' := 4) rfl ?_
  have L4 : ∀ (n4 : Nat) (c : Int) (k : Int), (aW A - k).toNat < n4 → (0 ≤ k ∧ k ≤ aW A ∧ c = cnt (fun n => mHe A n = m) (fun _ => inferInstance) k.toNat) → X Ω RX3 cX3_wordsHeardByMask 4 (some .int) false rm_X3_wordsHeardByMask PR xNo 0 0 4 [some (rf a), some (vi m), some (vi c), some (vi k)] [] h := by
    intro n4
    induction n4 with
    | zero => intro c k hm _; exfalso; omega
    | succ n4 ih4 =>
      intro c k hm4 hinv
      obtain ⟨hk0, hkn, hc⟩ := hinv
      refine X.iload_n (i := 3) rfl rfl dX3_wordsHeardByMask_4 (pc' := 5) rfl ?_
      refine X.aload_n (i := 0) rfl rfl dX3_wordsHeardByMask_5 (pc' := 6) rfl ?_
      refine X.getR fk_X3_9 xcl_3 dX3_wordsHeardByMask_6 hP.1 hP.2 (pc' := 9) rfl ?_
      refine X.getI (x := aW A) fk_X3_74 xcl_0 dX3_wordsHeardByMask_9 (by decide) hR.1.1.1 hR.1.2.2.2.1 (pc' := 12) rfl (fun r1 => ?_)
      obtain ⟨r1a, r1b⟩ := r1
      refine X.icmp_ge (tgt := 40) dX3_wordsHeardByMask_12 ⟨by omega, by omega⟩ ⟨by omega, by omega⟩ (by decide) (pc' := 15) rfl (fun c12 => ?_) (fun c12 => ?_)
      · refine X.iload_n (i := 2) rfl rfl dX3_wordsHeardByMask_40 (pc' := 41) rfl ?_
        refine X.iret dX3_wordsHeardByMask_41 (Or.inl rfl) (Nat.le_of_ble_eq_true rfl) (Nat.le_of_ble_eq_true rfl) ?_
        subst hPR
        have e : k = aW A := by omega
        subst e
        exact ⟨rfl, _, rfl, hc⟩
      · refine X.aload_n (i := 0) rfl rfl dX3_wordsHeardByMask_15 (pc' := 16) rfl ?_
        refine X.aload_n (i := 0) rfl rfl dX3_wordsHeardByMask_16 (pc' := 17) rfl ?_
        refine X.getR fk_X3_9 xcl_3 dX3_wordsHeardByMask_17 hP.1 hP.2 (pc' := 20) rfl ?_
        refine X.getR fk_X3_38 xcl_0 dX3_wordsHeardByMask_20 hR.1.1.1 hR.1.1.2.2.2.2.2.2.2.2.1.1 (pc' := 23) rfl ?_
        refine X.iload_n (i := 3) rfl rfl dX3_wordsHeardByMask_23 (pc' := 24) rfl ?_
        refine X.callV (ci := 3) (a := a) (rm := rm_X3_maskOf) (As := [rf ((b + 14)), vi k]) (st := []) dX3_wordsHeardByMask_24 ck_X3_34 rfl (by decide) hP.1 rfl rfl ⟨Nat.le_of_ble_eq_true rfl, Nat.le_of_ble_eq_true rfl⟩ (Nat.le_of_ble_eq_true rfl) (Nat.le_of_ble_eq_true rfl) (Nat.le_of_ble_eq_true rfl) (pc' := 27) rfl (k_X3_maskOf (f := fun s => fh A s k) ⟨hR.1.1.2.2.2.2.2.2.2.2.1.2, hR.1.1.2.2.2.2.2.2.2.2.2.2.2.2.1⟩ ⟨by omega, by omega⟩ (fun s h1 h2 => hR.2.1 s k h1 h2 (by omega) (by omega))) (fun q2 hq2 eq2 => ?_) (fun _ _ x1 => x1.elim)
        obtain ⟨rfl, y, rfl, hy⟩ := eq2
        have hyr := mkF_rng (fun s => fh A s k ≠ -1) (fun _ => inferInstance) 6
        have hy2 : y = mHe A k := hy
        rw [← hy] at hyr
        refine X.iload_n (i := 1) rfl rfl dX3_wordsHeardByMask_27 (pc' := 28) rfl ?_
        refine X.icmp_ne (tgt := 34) dX3_wordsHeardByMask_28 ⟨by omega, by omega⟩ ⟨by omega, by omega⟩ (by decide) (pc' := 31) rfl (fun c28 => ?_) (fun c28 => ?_)
        · refine X.iinc (i := 3) (ls' := [some (rf a), some (vi m), some (vi c), some (vi (k + 1))]) dX3_wordsHeardByMask_34 rfl (by decide) rfl rfl (pc' := 37) rfl ?_
          refine X.goto (tgt := 4) dX3_wordsHeardByMask_37 (by decide) ?_
          refine ih4 c (k + 1) (by omega) ?_
          exact ⟨by omega, by omega, cnt_out hc hk0 (by (try dsimp only); omega)⟩
        · refine X.iinc (i := 2) (ls' := [some (rf a), some (vi m), some (vi (c + 1)), some (vi k)]) dX3_wordsHeardByMask_31 rfl (by decide) rfl rfl (pc' := 34) rfl ?_
          refine X.iinc (i := 3) (ls' := [some (rf a), some (vi m), some (vi (c + 1)), some (vi (k + 1))]) dX3_wordsHeardByMask_34 rfl (by decide) rfl rfl (pc' := 37) rfl ?_
          refine X.goto (tgt := 4) dX3_wordsHeardByMask_37 (by decide) ?_
          refine ih4 (c + 1) (k + 1) (by omega) ?_
          exact ⟨by omega, by omega, cnt_in hc hk0 (by (try dsimp only); omega)⟩
  refine L4 _ 0 0 (Nat.lt_succ_self _) ?_
  exact ⟨by omega, by omega, rfl⟩
set_option maxHeartbeats 4000000 in
set_option maxRecDepth 100000 in
theorem k_X3_messages {Ω : xO} {h : xM} {a b : Nat} {A : aS} (hP : RpS h a b) (hR : RC h b A) : xCt Ω yX3_messages cX3_messages 3 (some .int) rm_X3_messages [rf a] h (fun q h' => h = h' ∧ ∃ r, q = some (vi r) ∧ r = mMs A) xNo := by
  refine xCt_of (ini := false) (by decide +kernel) (Nat.le_of_ble_eq_true rfl) (fun q => absurd q (by decide)) ?_
  generalize hPR : (fun q h' => h = h' ∧ ∃ r, q = some (vi r) ∧ r = mMs A : Option xV → xM → Prop) = PR
  have K0 : X Ω RX3 cX3_messages 3 (some .int) false rm_X3_messages PR xNo 0 0 0 [some (rf a), none, none] [] h := ?_
  exact K0
  have okA : aOK A := hR.1.2.1
  obtain ⟨okB, okN, okWl, okS, okW, okM, okC, okH⟩ := id hR.1.2.1
  refine X.iconst dX3_messages_0 (pc' := 1) rfl ?_
  refine X.istore_n (i := 1) (ls' := [some (rf a), some (vi 0), none]) (hi := rfl) (hd := dX3_messages_1) (by decide) rfl rfl (pc' := 2) rfl ?_
  refine X.iconst dX3_messages_2 (pc' := 3) rfl ?_
  refine X.istore_n (i := 2) (ls' := [some (rf a), some (vi 0), some (vi 0)]) (hi := rfl) (hd := dX3_messages_3) (by decide) rfl rfl (pc' := 4) rfl ?_
  have L4 : ∀ (n4 : Nat) (c : Int) (k : Int), (60 - k).toNat < n4 → (0 ≤ k ∧ k ≤ 60 ∧ c = cnt (fun p => 0 < msg A p) (fun _ => inferInstance) k.toNat) → X Ω RX3 cX3_messages 3 (some .int) false rm_X3_messages PR xNo 0 0 4 [some (rf a), some (vi c), some (vi k)] [] h := by
    intro n4
    induction n4 with
    | zero => intro c k hm _; exfalso; omega
    | succ n4 ih4 =>
      intro c k hm4 hinv
      obtain ⟨hk0, hkn, hc⟩ := hinv
      refine X.iload_n (i := 2) rfl rfl dX3_messages_4 (pc' := 5) rfl ?_
      refine X.aload_n (i := 0) rfl rfl dX3_messages_5 (pc' := 6) rfl ?_
      refine X.getR fk_X3_9 xcl_3 dX3_messages_6 hP.1 hP.2 (pc' := 9) rfl ?_
      refine X.getR fk_X3_77 xcl_0 dX3_messages_9 hR.1.1.1 hR.1.1.2.2.2.2.2.2.2.2.2.2.1.1 (pc' := 12) rfl ?_
      refine X.alen dX3_messages_12 hR.1.1.2.2.2.2.2.2.2.2.2.2.1.2 rfl (pc' := 13) rfl ?_
      refine X.icmp_ge (tgt := 37) dX3_messages_13 ⟨by omega, by omega⟩ ⟨by omega, by omega⟩ (by decide) (pc' := 16) rfl (fun c13 => ?_) (fun c13 => ?_)
      · refine X.iload_n (i := 1) rfl rfl dX3_messages_37 (pc' := 38) rfl ?_
        refine X.iret dX3_messages_38 (Or.inl rfl) (Nat.le_of_ble_eq_true rfl) (Nat.le_of_ble_eq_true rfl) ?_
        subst hPR
        have e : k = 60 := by omega
        subst e
        exact ⟨rfl, _, rfl, hc⟩
      · refine X.aload_n (i := 0) rfl rfl dX3_messages_16 (pc' := 17) rfl ?_
        refine X.getR fk_X3_9 xcl_3 dX3_messages_17 hP.1 hP.2 (pc' := 20) rfl ?_
        refine X.getR fk_X3_77 xcl_0 dX3_messages_20 hR.1.1.1 hR.1.1.2.2.2.2.2.2.2.2.2.2.1.1 (pc' := 23) rfl ?_
        refine X.iload_n (i := 2) rfl rfl dX3_messages_23 (pc' := 24) rfl ?_
        refine X.iald (x := msg A k) dX3_messages_24 hR.1.1.2.2.2.2.2.2.2.2.2.2.1.2 (by omega) (by omega) ⟨by omega, by omega⟩ (hR.2.2.2 k (by omega) (by omega)) (pc' := 25) rfl (fun r1 => ?_)
        obtain ⟨r1a, r1b⟩ := r1
        have r1c := msg_rng hR.1.2.1 k
        refine X.if_le (tgt := 31) dX3_messages_25 ⟨by omega, by omega⟩ (by decide) (pc' := 28) rfl (fun c25 => ?_) (fun c25 => ?_)
        · refine X.iinc (i := 2) (ls' := [some (rf a), some (vi c), some (vi (k + 1))]) dX3_messages_31 rfl (by decide) rfl rfl (pc' := 34) rfl ?_
          refine X.goto (tgt := 4) dX3_messages_34 (by decide) ?_
          refine ih4 c (k + 1) (by omega) ?_
          exact ⟨by omega, by omega, cnt_out hc hk0 (by (try dsimp only); omega)⟩
        · refine X.iinc (i := 1) (ls' := [some (rf a), some (vi (c + 1)), some (vi k)]) dX3_messages_28 rfl (by decide) rfl rfl (pc' := 31) rfl ?_
          refine X.iinc (i := 2) (ls' := [some (rf a), some (vi (c + 1)), some (vi (k + 1))]) dX3_messages_31 rfl (by decide) rfl rfl (pc' := 34) rfl ?_
          refine X.goto (tgt := 4) dX3_messages_34 (by decide) ?_
          refine ih4 (c + 1) (k + 1) (by omega) ?_
          exact ⟨by omega, by omega, cnt_in hc hk0 (by (try dsimp only); omega)⟩
  refine L4 _ 0 0 (Nat.lt_succ_self _) ?_
  exact ⟨by omega, by omega, rfl⟩
set_option maxHeartbeats 4000000 in
set_option maxRecDepth 100000 in
theorem k_X3_allHeardWhole {Ω : xO} {h : xM} {a b : Nat} {A : aS} {f m : Int} (hP : RpS h a b) (hR : RC h b A) (hf : 0 ≤ f ∧ f < 6) (hm : 0 ≤ m ∧ m ≤ 9) : xCt Ω yX3_allHeardWhole cX3_allHeardWhole 4 (some .boolean) rm_X3_allHeardWhole [rf a, vi f, vi m] h (fun q h' => h = h' ∧ ∃ r, q = some (vi r) ∧ ((allH A f m ∧ r = 1) ∨ (¬ allH A f m ∧ r = 0))) xNo := by
  refine xCt_of (ini := false) (by decide +kernel) (Nat.le_of_ble_eq_true rfl) (fun q => absurd q (by decide)) ?_
  generalize hPR : (fun q h' => h = h' ∧ ∃ r, q = some (vi r) ∧ ((allH A f m ∧ r = 1) ∨ (¬ allH A f m ∧ r = 0)) : Option xV → xM → Prop) = PR
  have K0 : X Ω RX3 cX3_allHeardWhole 4 (some .boolean) false rm_X3_allHeardWhole PR xNo 0 0 0 [some (rf a), some (vi f), some (vi m), none] [] h := ?_
  exact K0
  have okA : aOK A := hR.1.2.1
  obtain ⟨okB, okN, okWl, okS, okW, okM, okC, okH⟩ := id hR.1.2.1
  refine X.iconst dX3_allHeardWhole_0 (pc' := 1) rfl ?_
  refine X.istore_n (i := 3) (ls' := [some (rf a), some (vi f), some (vi m), some (vi 0)]) (hi := rfl) (hd := dX3_allHeardWhole_1) (by decide) rfl rfl (pc' := 2) rfl ?_
  have L2 : ∀ (n2 : Nat) (t : Int), (6 - t).toNat < n2 → (0 ≤ t ∧ t ≤ 6 ∧ ∀ q, 0 ≤ q → q < t → how A f m q = 3) → X Ω RX3 cX3_allHeardWhole 4 (some .boolean) false rm_X3_allHeardWhole PR xNo 0 0 2 [some (rf a), some (vi f), some (vi m), some (vi t)] [] h := by
    intro n2
    induction n2 with
    | zero => intro t hm _; exfalso; omega
    | succ n2 ih2 =>
      intro t hm2 hinv
      obtain ⟨ht0, ht6, hq⟩ := hinv
      refine X.iload_n (i := 3) rfl rfl dX3_allHeardWhole_2 (pc' := 3) rfl ?_
      refine X.bipush (by decide +kernel) dX3_allHeardWhole_3 (pc' := 5) rfl ?_
      refine X.icmp_ge (tgt := 27) dX3_allHeardWhole_5 ⟨by omega, by omega⟩ ⟨by omega, by omega⟩ (by decide) (pc' := 8) rfl (fun c5 => ?_) (fun c5 => ?_)
      · refine X.iconst dX3_allHeardWhole_27 (pc' := 28) rfl ?_
        refine X.iret dX3_allHeardWhole_28 (Or.inr ⟨rfl, by omega⟩) (Nat.le_of_ble_eq_true rfl) (Nat.le_of_ble_eq_true rfl) ?_
        subst hPR
        exact ⟨rfl, _, rfl, Or.inl ⟨⟨hq 0 (by omega) (by omega), hq 1 (by omega) (by omega), hq 2 (by omega) (by omega), hq 3 (by omega) (by omega), hq 4 (by omega) (by omega), hq 5 (by omega) (by omega)⟩, rfl⟩⟩
      · refine X.aload_n (i := 0) rfl rfl dX3_allHeardWhole_8 (pc' := 9) rfl ?_
        refine X.iload_n (i := 1) rfl rfl dX3_allHeardWhole_9 (pc' := 10) rfl ?_
        refine X.iload_n (i := 2) rfl rfl dX3_allHeardWhole_10 (pc' := 11) rfl ?_
        refine X.iload_n (i := 3) rfl rfl dX3_allHeardWhole_11 (pc' := 12) rfl ?_
        refine X.callV (ci := 3) (a := a) (rm := rm_X3_hearingOf) (As := [vi f, vi m, vi t]) (st := []) dX3_allHeardWhole_12 ck_X3_100 rfl (by decide) hP.1 rfl rfl ⟨Nat.le_of_ble_eq_true rfl, Nat.le_of_ble_eq_true rfl⟩ (Nat.le_of_ble_eq_true rfl) (Nat.le_of_ble_eq_true rfl) (Nat.le_of_ble_eq_true rfl) (pc' := 15) rfl (k_X3_hearingOf hP hR hf hm ⟨by omega, by omega⟩) (fun q1 hq1 eq1 => ?_) (fun _ _ x1 => x1.elim)
        obtain ⟨rfl, y, rfl, hy⟩ := eq1
        have hyr := how_rng A f m t
        refine X.iconst dX3_allHeardWhole_15 (pc' := 16) rfl ?_
        refine X.icmp_eq (tgt := 21) dX3_allHeardWhole_16 ⟨by omega, by omega⟩ ⟨by omega, by omega⟩ (by decide) (pc' := 19) rfl (fun c16 => ?_) (fun c16 => ?_)
        · refine X.iinc (i := 3) (ls' := [some (rf a), some (vi f), some (vi m), some (vi (t + 1))]) dX3_allHeardWhole_21 rfl (by decide) rfl rfl (pc' := 24) rfl ?_
          refine X.goto (tgt := 2) dX3_allHeardWhole_24 (by decide) ?_
          refine ih2 (t + 1) (by omega) ?_
          refine ⟨by omega, by omega, fun q h1 h2 => ?_⟩
          by_cases e1 : q = t
          · subst e1; omega
          · exact hq q h1 (by omega)
        · refine X.iconst dX3_allHeardWhole_19 (pc' := 20) rfl ?_
          refine X.iret dX3_allHeardWhole_20 (Or.inr ⟨rfl, by omega⟩) (Nat.le_of_ble_eq_true rfl) (Nat.le_of_ble_eq_true rfl) ?_
          subst hPR
          refine ⟨rfl, _, rfl, Or.inr ⟨fun z => ?_, rfl⟩⟩
          unfold allH at z
          rcases (show t = 0 ∨ t = 1 ∨ t = 2 ∨ t = 3 ∨ t = 4 ∨ t = 5 by omega) with rfl | rfl | rfl | rfl | rfl | rfl <;> omega
  refine L2 _ 0 (Nat.lt_succ_self _) ?_
  exact ⟨by omega, by omega, fun q h1 h2 => by omega⟩
set_option maxHeartbeats 4000000 in
set_option maxRecDepth 100000 in
theorem k_X3_messagesHeardWhole {Ω : xO} {h : xM} {a b : Nat} {A : aS} (hP : RpS h a b) (hR : RC h b A) : xCt Ω yX3_messagesHeardWhole cX3_messagesHeardWhole 4 (some .int) rm_X3_messagesHeardWhole [rf a] h (fun q h' => h = h' ∧ ∃ r, q = some (vi r) ∧ r = mWh A) xNo := by
  refine xCt_of (ini := false) (by decide +kernel) (Nat.le_of_ble_eq_true rfl) (fun q => absurd q (by decide)) ?_
  generalize hPR : (fun q h' => h = h' ∧ ∃ r, q = some (vi r) ∧ r = mWh A : Option xV → xM → Prop) = PR
  have K0 : X Ω RX3 cX3_messagesHeardWhole 4 (some .int) false rm_X3_messagesHeardWhole PR xNo 0 0 0 [some (rf a), none, none, none] [] h := ?_
  exact K0
  have okA : aOK A := hR.1.2.1
  obtain ⟨okB, okN, okWl, okS, okW, okM, okC, okH⟩ := id hR.1.2.1
  refine X.iconst dX3_messagesHeardWhole_0 (pc' := 1) rfl ?_
  refine X.istore_n (i := 1) (ls' := [some (rf a), some (vi 0), none, none]) (hi := rfl) (hd := dX3_messagesHeardWhole_1) (by decide) rfl rfl (pc' := 2) rfl ?_
  refine X.iconst dX3_messagesHeardWhole_2 (pc' := 3) rfl ?_
  refine X.istore_n (i := 2) (ls' := [some (rf a), some (vi 0), some (vi 0), none]) (hi := rfl) (hd := dX3_messagesHeardWhole_3) (by decide) rfl rfl (pc' := 4) rfl ?_
  have L4 : ∀ (n4 : Nat) (c : Int) (f : Int), (6 - f).toNat < n4 → (0 ≤ f ∧ f ≤ 6 ∧ c = cnt (fun p => allH A (p / 10) (p % 10)) (fun p => allHd A (p / 10) (p % 10)) (10 * f).toNat) → X Ω RX3 cX3_messagesHeardWhole 4 (some .int) false rm_X3_messagesHeardWhole PR xNo 0 0 4 [some (rf a), some (vi c), some (vi f), none] [] h := by
    intro n4
    induction n4 with
    | zero => intro c f hm _; exfalso; omega
    | succ n4 ih4 =>
      intro c f hm4 hinv
      obtain ⟨hf0, hf6, hc⟩ := hinv
      refine X.iload_n (i := 2) rfl rfl dX3_messagesHeardWhole_4 (pc' := 5) rfl ?_
      refine X.bipush (by decide +kernel) dX3_messagesHeardWhole_5 (pc' := 7) rfl ?_
      refine X.icmp_ge (tgt := 42) dX3_messagesHeardWhole_7 ⟨by omega, by omega⟩ ⟨by omega, by omega⟩ (by decide) (pc' := 10) rfl (fun c7 => ?_) (fun c7 => ?_)
      · refine X.iload_n (i := 1) rfl rfl dX3_messagesHeardWhole_42 (pc' := 43) rfl ?_
        refine X.iret dX3_messagesHeardWhole_43 (Or.inl rfl) (Nat.le_of_ble_eq_true rfl) (Nat.le_of_ble_eq_true rfl) ?_
        subst hPR
        have e : f = 6 := by omega
        subst e
        exact ⟨rfl, _, rfl, hc⟩
      · refine X.iconst dX3_messagesHeardWhole_10 (pc' := 11) rfl ?_
        refine X.istore_n (i := 3) (ls' := [some (rf a), some (vi c), some (vi f), some (vi 0)]) (hi := rfl) (hd := dX3_messagesHeardWhole_11) (by decide) rfl rfl (pc' := 12) rfl ?_
        have L12 : ∀ (n12 : Nat) (e : Int) (m : Int), (10 - m).toNat < n12 → (0 ≤ m ∧ m ≤ 10 ∧ e = cnt (fun p => allH A (p / 10) (p % 10)) (fun p => allHd A (p / 10) (p % 10)) (10 * f + m).toNat) → X Ω RX3 cX3_messagesHeardWhole 4 (some .int) false rm_X3_messagesHeardWhole PR xNo 0 0 12 [some (rf a), some (vi e), some (vi f), some (vi m)] [] h := by
          intro n12
          induction n12 with
          | zero => intro e m hm _; exfalso; omega
          | succ n12 ih12 =>
            intro e m hm12 hinv
            obtain ⟨hm0, hm9, hc2⟩ := hinv
            refine X.iload_n (i := 3) rfl rfl dX3_messagesHeardWhole_12 (pc' := 13) rfl ?_
            refine X.bipush (by decide +kernel) dX3_messagesHeardWhole_13 (pc' := 15) rfl ?_
            refine X.icmp_ge (tgt := 36) dX3_messagesHeardWhole_15 ⟨by omega, by omega⟩ ⟨by omega, by omega⟩ (by decide) (pc' := 18) rfl (fun c15 => ?_) (fun c15 => ?_)
            · refine X.iinc (i := 2) (ls' := [some (rf a), some (vi e), some (vi (f + 1)), some (vi m)]) dX3_messagesHeardWhole_36 rfl (by decide) rfl rfl (pc' := 39) rfl ?_
              refine X.goto (tgt := 4) dX3_messagesHeardWhole_39 (by decide) ?_
              refine X.mask (bs := [true, true, true, false]) (ls' := [some (rf a), some (vi e), some (vi (f + 1)), none]) rfl ?_
              refine ih4 e (f + 1) (by omega) ?_
              refine ⟨by omega, by omega, ?_⟩
              rw [hc2, show 10 * (f + 1) = 10 * f + m by omega]
            · refine X.aload_n (i := 0) rfl rfl dX3_messagesHeardWhole_18 (pc' := 19) rfl ?_
              refine X.iload_n (i := 2) rfl rfl dX3_messagesHeardWhole_19 (pc' := 20) rfl ?_
              refine X.iload_n (i := 3) rfl rfl dX3_messagesHeardWhole_20 (pc' := 21) rfl ?_
              refine X.callV (ci := 3) (a := a) (rm := rm_X3_allHeardWhole) (As := [vi f, vi m]) (st := []) dX3_messagesHeardWhole_21 ck_X3_97 rfl (by decide) hP.1 rfl rfl ⟨Nat.le_of_ble_eq_true rfl, Nat.le_of_ble_eq_true rfl⟩ (Nat.le_of_ble_eq_true rfl) (Nat.le_of_ble_eq_true rfl) (Nat.le_of_ble_eq_true rfl) (pc' := 24) rfl (k_X3_allHeardWhole hP hR ⟨by omega, by omega⟩ ⟨by omega, by omega⟩) (fun q1 hq1 eq1 => ?_) (fun _ _ x1 => x1.elim)
              obtain ⟨rfl, y, rfl, hy⟩ := eq1
              have hdv : (10 * f + m) / 10 = f ∧ (10 * f + m) % 10 = m := by omega
              have hyy : y = 0 ∨ y = 1 := by rcases hy with z | z <;> omega
              refine X.if_eq (tgt := 30) dX3_messagesHeardWhole_24 ⟨by omega, by omega⟩ (by decide) (pc' := 27) rfl (fun c24 => ?_) (fun c24 => ?_)
              · refine X.iinc (i := 3) (ls' := [some (rf a), some (vi e), some (vi f), some (vi (m + 1))]) dX3_messagesHeardWhole_30 rfl (by decide) rfl rfl (pc' := 33) rfl ?_
                refine X.goto (tgt := 12) dX3_messagesHeardWhole_33 (by decide) ?_
                refine ih12 e (m + 1) (by omega) ?_
                refine ⟨by omega, by omega, ?_⟩
                rw [← Int.add_assoc]
                rcases hy with ⟨z1, z2⟩ | ⟨z1, z2⟩
                · exfalso; omega
                · exact cnt_out hc2 (by omega) (by (try dsimp only); rw [hdv.1, hdv.2]; exact z1)
              · refine X.iinc (i := 1) (ls' := [some (rf a), some (vi (e + 1)), some (vi f), some (vi m)]) dX3_messagesHeardWhole_27 rfl (by decide) rfl rfl (pc' := 30) rfl ?_
                refine X.iinc (i := 3) (ls' := [some (rf a), some (vi (e + 1)), some (vi f), some (vi (m + 1))]) dX3_messagesHeardWhole_30 rfl (by decide) rfl rfl (pc' := 33) rfl ?_
                refine X.goto (tgt := 12) dX3_messagesHeardWhole_33 (by decide) ?_
                refine ih12 (e + 1) (m + 1) (by omega) ?_
                refine ⟨by omega, by omega, ?_⟩
                rw [← Int.add_assoc]
                rcases hy with ⟨z1, z2⟩ | ⟨z1, z2⟩
                · exact cnt_in hc2 (by omega) (by (try dsimp only); rw [hdv.1, hdv.2]; exact z1)
                · exfalso; omega
        refine L12 _ c 0 (Nat.lt_succ_self _) ?_
        refine ⟨by omega, by omega, ?_⟩
        rw [Int.add_zero]; exact hc
  refine L4 _ 0 0 (Nat.lt_succ_self _) ?_
  exact ⟨by omega, by omega, rfl⟩
set_option maxHeartbeats 4000000 in
set_option maxRecDepth 100000 in
theorem k_X3_ofAll {Ω : xO} {h : xM} {a b : Nat} {A : aS} {w : Int} (hP : RpS h a b) (hR : RC h b A) (hw : 0 ≤ w ∧ w ≤ 8) : xCt Ω yX3_ofAll cX3_ofAll 2 (some .int) rm_X3_ofAll [rf a, vi w] h (fun q h' => h = h' ∧ ∃ r, q = some (vi r) ∧ r = oAl A w) xNo := by
  refine xCt_of (ini := false) (by decide +kernel) (Nat.le_of_ble_eq_true rfl) (fun q => absurd q (by decide)) ?_
  generalize hPR : (fun q h' => h = h' ∧ ∃ r, q = some (vi r) ∧ r = oAl A w : Option xV → xM → Prop) = PR
  have K0 : X Ω RX3 cX3_ofAll 2 (some .int) false rm_X3_ofAll PR xNo 0 0 0 [some (rf a), some (vi w)] [] h := ?_
  exact K0
  have okA : aOK A := hR.1.2.1
  obtain ⟨okB, okN, okWl, okS, okW, okM, okC, okH⟩ := id hR.1.2.1
  refine X.iload_n (i := 1) rfl rfl dX3_ofAll_0 (pc' := 1) rfl ?_
  rcases (show w = 0 ∨ w = 1 ∨ w = 2 ∨ w = 3 ∨ w = 4 ∨ w = 5 ∨ w = 6 ∨ w = 7 ∨ (w < 0 ∨ 7 < w) by omega) with sw1 | sw1 | sw1 | sw1 | sw1 | sw1 | sw1 | sw1 | sw1
  · refine X.tableIn (tgt := 48) (off := 47) dX3_ofAll_1 ⟨by omega, by omega⟩ (by omega) (by omega) (by rw [sw1]; rfl) (by decide) ?_
    refine X.aload_n (i := 0) rfl rfl dX3_ofAll_48 (pc' := 49) rfl ?_
    refine X.getR fk_X3_9 xcl_3 dX3_ofAll_49 hP.1 hP.2 (pc' := 52) rfl ?_
    refine X.getI (x := aB A) fk_X3_61 xcl_0 dX3_ofAll_52 (by decide) hR.1.1.1 hR.1.2.2.1 (pc' := 55) rfl (fun r2 => ?_)
    obtain ⟨r2a, r2b⟩ := r2
    refine X.iret dX3_ofAll_55 (Or.inl rfl) (Nat.le_of_ble_eq_true rfl) (Nat.le_of_ble_eq_true rfl) ?_
    subst hPR
    subst sw1
    exact ⟨rfl, _, rfl, rfl⟩
  · refine X.tableIn (tgt := 56) (off := 55) dX3_ofAll_1 ⟨by omega, by omega⟩ (by omega) (by omega) (by rw [sw1]; rfl) (by decide) ?_
    refine X.aload_n (i := 0) rfl rfl dX3_ofAll_56 (pc' := 57) rfl ?_
    refine X.getR fk_X3_9 xcl_3 dX3_ofAll_57 hP.1 hP.2 (pc' := 60) rfl ?_
    refine X.getI (x := aW A) fk_X3_74 xcl_0 dX3_ofAll_60 (by decide) hR.1.1.1 hR.1.2.2.2.1 (pc' := 63) rfl (fun r3 => ?_)
    obtain ⟨r3a, r3b⟩ := r3
    refine X.iret dX3_ofAll_63 (Or.inl rfl) (Nat.le_of_ble_eq_true rfl) (Nat.le_of_ble_eq_true rfl) ?_
    subst hPR
    subst sw1
    exact ⟨rfl, _, rfl, rfl⟩
  · refine X.tableIn (tgt := 64) (off := 63) dX3_ofAll_1 ⟨by omega, by omega⟩ (by omega) (by omega) (by rw [sw1]; rfl) (by decide) ?_
    refine X.aload_n (i := 0) rfl rfl dX3_ofAll_64 (pc' := 65) rfl ?_
    refine X.bipush (by decide +kernel) dX3_ofAll_65 (pc' := 67) rfl ?_
    refine X.callV (ci := 3) (a := a) (rm := rm_X3_wordsHeardByMask) (As := [vi 63]) (st := []) dX3_ofAll_67 ck_X3_84 rfl (by decide) hP.1 rfl rfl ⟨Nat.le_of_ble_eq_true rfl, Nat.le_of_ble_eq_true rfl⟩ (Nat.le_of_ble_eq_true rfl) (Nat.le_of_ble_eq_true rfl) (Nat.le_of_ble_eq_true rfl) (pc' := 70) rfl (k_X3_wordsHeardByMask hP hR ⟨by omega, by omega⟩) (fun q4 hq4 eq4 => ?_) (fun _ _ x1 => x1.elim)
    obtain ⟨rfl, r5, rfl, hr5⟩ := eq4
    refine X.iret dX3_ofAll_70 (Or.inl rfl) (Nat.le_of_ble_eq_true rfl) (Nat.le_of_ble_eq_true rfl) ?_
    subst hPR
    subst sw1
    exact ⟨rfl, _, rfl, hr5⟩
  · refine X.tableIn (tgt := 71) (off := 70) dX3_ofAll_1 ⟨by omega, by omega⟩ (by omega) (by omega) (by rw [sw1]; rfl) (by decide) ?_
    refine X.aload_n (i := 0) rfl rfl dX3_ofAll_71 (pc' := 72) rfl ?_
    refine X.iconst dX3_ofAll_72 (pc' := 73) rfl ?_
    refine X.callV (ci := 3) (a := a) (rm := rm_X3_wordsHeardByMask) (As := [vi 0]) (st := []) dX3_ofAll_73 ck_X3_84 rfl (by decide) hP.1 rfl rfl ⟨Nat.le_of_ble_eq_true rfl, Nat.le_of_ble_eq_true rfl⟩ (Nat.le_of_ble_eq_true rfl) (Nat.le_of_ble_eq_true rfl) (Nat.le_of_ble_eq_true rfl) (pc' := 76) rfl (k_X3_wordsHeardByMask hP hR ⟨by omega, by omega⟩) (fun q6 hq6 eq6 => ?_) (fun _ _ x1 => x1.elim)
    obtain ⟨rfl, r7, rfl, hr7⟩ := eq6
    refine X.iret dX3_ofAll_76 (Or.inl rfl) (Nat.le_of_ble_eq_true rfl) (Nat.le_of_ble_eq_true rfl) ?_
    subst hPR
    subst sw1
    exact ⟨rfl, _, rfl, hr7⟩
  · refine X.tableIn (tgt := 77) (off := 76) dX3_ofAll_1 ⟨by omega, by omega⟩ (by omega) (by omega) (by rw [sw1]; rfl) (by decide) ?_
    refine X.aload_n (i := 0) rfl rfl dX3_ofAll_77 (pc' := 78) rfl ?_
    refine X.callV (ci := 3) (a := a) (rm := rm_X3_messages) (As := []) (st := []) dX3_ofAll_78 ck_X3_87 rfl (by decide) hP.1 rfl rfl ⟨Nat.le_of_ble_eq_true rfl, Nat.le_of_ble_eq_true rfl⟩ (Nat.le_of_ble_eq_true rfl) (Nat.le_of_ble_eq_true rfl) (Nat.le_of_ble_eq_true rfl) (pc' := 81) rfl (k_X3_messages hP hR) (fun q8 hq8 eq8 => ?_) (fun _ _ x1 => x1.elim)
    obtain ⟨rfl, r9, rfl, hr9⟩ := eq8
    refine X.iret dX3_ofAll_81 (Or.inl rfl) (Nat.le_of_ble_eq_true rfl) (Nat.le_of_ble_eq_true rfl) ?_
    subst hPR
    subst sw1
    exact ⟨rfl, _, rfl, hr9⟩
  · refine X.tableIn (tgt := 82) (off := 81) dX3_ofAll_1 ⟨by omega, by omega⟩ (by omega) (by omega) (by rw [sw1]; rfl) (by decide) ?_
    refine X.aload_n (i := 0) rfl rfl dX3_ofAll_82 (pc' := 83) rfl ?_
    refine X.callV (ci := 3) (a := a) (rm := rm_X3_messagesHeardWhole) (As := []) (st := []) dX3_ofAll_83 ck_X3_91 rfl (by decide) hP.1 rfl rfl ⟨Nat.le_of_ble_eq_true rfl, Nat.le_of_ble_eq_true rfl⟩ (Nat.le_of_ble_eq_true rfl) (Nat.le_of_ble_eq_true rfl) (Nat.le_of_ble_eq_true rfl) (pc' := 86) rfl (k_X3_messagesHeardWhole hP hR) (fun q10 hq10 eq10 => ?_) (fun _ _ x1 => x1.elim)
    obtain ⟨rfl, r11, rfl, hr11⟩ := eq10
    refine X.iret dX3_ofAll_86 (Or.inl rfl) (Nat.le_of_ble_eq_true rfl) (Nat.le_of_ble_eq_true rfl) ?_
    subst hPR
    subst sw1
    exact ⟨rfl, _, rfl, hr11⟩
  · refine X.tableIn (tgt := 87) (off := 86) dX3_ofAll_1 ⟨by omega, by omega⟩ (by omega) (by omega) (by rw [sw1]; rfl) (by decide) ?_
    refine X.aload_n (i := 0) rfl rfl dX3_ofAll_87 (pc' := 88) rfl ?_
    refine X.getR fk_X3_9 xcl_3 dX3_ofAll_88 hP.1 hP.2 (pc' := 91) rfl ?_
    refine X.getR fk_X3_94 xcl_0 dX3_ofAll_91 hR.1.1.1 hR.1.1.2.2.1.1 (pc' := 94) rfl ?_
    refine X.iconst dX3_ofAll_94 (pc' := 95) rfl ?_
    refine X.iald (x := aSt A 0) dX3_ofAll_95 hR.1.1.2.2.1.2 (by omega) (by omega) ⟨by omega, by omega⟩ (hR.1.2.2.2.2.2.1 0 (by omega) (by omega)) (pc' := 96) rfl (fun r12 => ?_)
    obtain ⟨r12a, r12b⟩ := r12
    refine X.iret dX3_ofAll_96 (Or.inl rfl) (Nat.le_of_ble_eq_true rfl) (Nat.le_of_ble_eq_true rfl) ?_
    subst hPR
    subst sw1
    exact ⟨rfl, _, rfl, rfl⟩
  · refine X.tableIn (tgt := 97) (off := 96) dX3_ofAll_1 ⟨by omega, by omega⟩ (by omega) (by omega) (by rw [sw1]; rfl) (by decide) ?_
    refine X.aload_n (i := 0) rfl rfl dX3_ofAll_97 (pc' := 98) rfl ?_
    refine X.getR fk_X3_9 xcl_3 dX3_ofAll_98 hP.1 hP.2 (pc' := 101) rfl ?_
    refine X.getR fk_X3_94 xcl_0 dX3_ofAll_101 hR.1.1.1 hR.1.1.2.2.1.1 (pc' := 104) rfl ?_
    refine X.iconst dX3_ofAll_104 (pc' := 105) rfl ?_
    refine X.iald (x := aSt A 1) dX3_ofAll_105 hR.1.1.2.2.1.2 (by omega) (by omega) ⟨by omega, by omega⟩ (hR.1.2.2.2.2.2.1 1 (by omega) (by omega)) (pc' := 106) rfl (fun r13 => ?_)
    obtain ⟨r13a, r13b⟩ := r13
    refine X.iret dX3_ofAll_106 (Or.inl rfl) (Nat.le_of_ble_eq_true rfl) (Nat.le_of_ble_eq_true rfl) ?_
    subst hPR
    subst sw1
    exact ⟨rfl, _, rfl, rfl⟩
  · refine X.tableOut (tgt := 107) dX3_ofAll_1 ⟨by omega, by omega⟩ sw1 (by decide) ?_
    refine X.aload_n (i := 0) rfl rfl dX3_ofAll_107 (pc' := 108) rfl ?_
    refine X.getR fk_X3_9 xcl_3 dX3_ofAll_108 hP.1 hP.2 (pc' := 111) rfl ?_
    refine X.getR fk_X3_94 xcl_0 dX3_ofAll_111 hR.1.1.1 hR.1.1.2.2.1.1 (pc' := 114) rfl ?_
    refine X.iconst dX3_ofAll_114 (pc' := 115) rfl ?_
    refine X.iald (x := aSt A 2) dX3_ofAll_115 hR.1.1.2.2.1.2 (by omega) (by omega) ⟨by omega, by omega⟩ (hR.1.2.2.2.2.2.1 2 (by omega) (by omega)) (pc' := 116) rfl (fun r14 => ?_)
    obtain ⟨r14a, r14b⟩ := r14
    refine X.iret dX3_ofAll_116 (Or.inl rfl) (Nat.le_of_ble_eq_true rfl) (Nat.le_of_ble_eq_true rfl) ?_
    subst hPR
    have e : w = 8 := by omega
    subst e
    exact ⟨rfl, _, rfl, rfl⟩
set_option maxHeartbeats 4000000 in
set_option maxRecDepth 100000 in
theorem k_X3_whyUnheard {Ω : xO} {h : xM} {a b : Nat} {A : aS} {n s : Int} (hP : RpS h a b) (hR : RC h b A) (hn : 0 ≤ n ∧ n < aW A) (hs : 0 ≤ s ∧ s < 6) : xCt Ω yX3_whyUnheard cX3_whyUnheard 4 (some .int) rm_X3_whyUnheard [rf a, vi n, vi s] h (fun q h' => h = h' ∧ ∃ r, q = some (vi r) ∧ r = why A n s) xNo := by
  refine xCt_of (ini := false) (by decide +kernel) (Nat.le_of_ble_eq_true rfl) (fun q => absurd q (by decide)) ?_
  generalize hPR : (fun q h' => h = h' ∧ ∃ r, q = some (vi r) ∧ r = why A n s : Option xV → xM → Prop) = PR
  have K0 : X Ω RX3 cX3_whyUnheard 4 (some .int) false rm_X3_whyUnheard PR xNo 0 0 0 [some (rf a), some (vi n), some (vi s), none] [] h := ?_
  exact K0
  have okA : aOK A := hR.1.2.1
  obtain ⟨okB, okN, okWl, okS, okW, okM, okC, okH⟩ := id hR.1.2.1
  refine X.aload_n (i := 0) rfl rfl dX3_whyUnheard_0 (pc' := 1) rfl ?_
  refine X.getR fk_X3_9 xcl_3 dX3_whyUnheard_1 hP.1 hP.2 (pc' := 4) rfl ?_
  refine X.getR fk_X3_38 xcl_0 dX3_whyUnheard_4 hR.1.1.1 hR.1.1.2.2.2.2.2.2.2.2.1.1 (pc' := 7) rfl ?_
  refine X.iload_n (i := 2) rfl rfl dX3_whyUnheard_7 (pc' := 8) rfl ?_
  refine X.aald13 dX3_whyUnheard_8 hR.1.1.2.2.2.2.2.2.2.2.1.2 (by omega) (by omega) ⟨by omega, by omega⟩ (hR.1.1.2.2.2.2.2.2.2.2.2.2.2.2.1 (s) (by omega) (by omega)).1 (pc' := 9) rfl ?_
  refine X.iload_n (i := 1) rfl rfl dX3_whyUnheard_9 (pc' := 10) rfl ?_
  refine X.iald (x := fh A s n) dX3_whyUnheard_10 (hR.1.1.2.2.2.2.2.2.2.2.2.2.2.2.1 (s) (by omega) (by omega)).2 (by omega) (by omega) ⟨by omega, by omega⟩ (hR.2.1 s n (by omega) (by omega) (by omega) (by omega)) (pc' := 11) rfl (fun r1 => ?_)
  obtain ⟨r1a, r1b⟩ := r1
  have r1c := fh_rng hR.1.2.1 s n (by omega) (by omega) (by omega) (by omega)
  refine X.iconst dX3_whyUnheard_11 (pc' := 12) rfl ?_
  refine X.icmp_eq (tgt := 17) dX3_whyUnheard_12 ⟨by omega, by omega⟩ ⟨by omega, by omega⟩ (by decide) (pc' := 15) rfl (fun c12 => ?_) (fun c12 => ?_)
  · refine X.aload_n (i := 0) rfl rfl dX3_whyUnheard_17 (pc' := 18) rfl ?_
    refine X.getR fk_X3_9 xcl_3 dX3_whyUnheard_18 hP.1 hP.2 (pc' := 21) rfl ?_
    refine X.getR fk_X3_30 xcl_0 dX3_whyUnheard_21 hR.1.1.1 hR.1.1.2.2.2.2.2.2.2.1.1 (pc' := 24) rfl ?_
    refine X.iload_n (i := 2) rfl rfl dX3_whyUnheard_24 (pc' := 25) rfl ?_
    refine X.aald13 dX3_whyUnheard_25 hR.1.1.2.2.2.2.2.2.2.1.2 (by omega) (by omega) ⟨by omega, by omega⟩ (hR.1.1.2.2.2.2.2.2.2.2.2.2.2.1 (s) (by omega) (by omega)).1 (pc' := 26) rfl ?_
    refine X.iload_n (i := 1) rfl rfl dX3_whyUnheard_26 (pc' := 27) rfl ?_
    refine X.iald (x := aCo A s n) dX3_whyUnheard_27 (hR.1.1.2.2.2.2.2.2.2.2.2.2.2.1 (s) (by omega) (by omega)).2 (by omega) (by omega) ⟨by omega, by omega⟩ (hR.1.2.2.2.2.2.2.2.2.2.2 s n (by omega) (by omega) (by omega) (by omega)) (pc' := 28) rfl (fun r2 => ?_)
    obtain ⟨r2a, r2b⟩ := r2
    have r2c := hR.1.2.1.2.2.2.2.2.2.1 s n (by omega) (by omega) (by omega) (by omega)
    refine X.gen (fun ca hca => ?_)
    refine X.istore_n (i := 3) (ls' := [some (rf a), some (vi n), some (vi s), some (vi ca)]) (hi := rfl) (hd := dX3_whyUnheard_28) (by decide) rfl rfl (pc' := 29) rfl ?_
    refine X.iload_n (i := 3) rfl rfl dX3_whyUnheard_29 (pc' := 30) rfl ?_
    refine X.iconst dX3_whyUnheard_30 (pc' := 31) rfl ?_
    refine X.icmp_ne (tgt := 36) dX3_whyUnheard_31 ⟨by omega, by omega⟩ ⟨by omega, by omega⟩ (by decide) (pc' := 34) rfl (fun c31 => ?_) (fun c31 => ?_)
    · refine X.iload_n (i := 3) rfl rfl dX3_whyUnheard_36 (pc' := 37) rfl ?_
      refine X.aload_n (i := 0) rfl rfl dX3_whyUnheard_37 (pc' := 38) rfl ?_
      refine X.getR fk_X3_9 xcl_3 dX3_whyUnheard_38 hP.1 hP.2 (pc' := 41) rfl ?_
      refine X.getI (x := aB A) fk_X3_61 xcl_0 dX3_whyUnheard_41 (by decide) hR.1.1.1 hR.1.2.2.1 (pc' := 44) rfl (fun r3 => ?_)
      obtain ⟨r3a, r3b⟩ := r3
      refine X.icmp_lt (tgt := 51) dX3_whyUnheard_44 ⟨by omega, by omega⟩ ⟨by omega, by omega⟩ (by decide) (pc' := 47) rfl (fun c44 => ?_) (fun c44 => ?_)
      · refine X.iconst dX3_whyUnheard_51 (pc' := 52) rfl ?_
        refine X.iret dX3_whyUnheard_52 (Or.inl rfl) (Nat.le_of_ble_eq_true rfl) (Nat.le_of_ble_eq_true rfl) ?_
        subst hPR
        refine ⟨rfl, _, rfl, ?_⟩
        unfold why
        rw [if_neg (by omega)]
        rw [if_neg (by omega), if_neg (by omega)]
      · refine X.iconst dX3_whyUnheard_47 (pc' := 48) rfl ?_
        refine X.goto (tgt := 52) dX3_whyUnheard_48 (by decide) ?_
        refine X.iret dX3_whyUnheard_52 (Or.inl rfl) (Nat.le_of_ble_eq_true rfl) (Nat.le_of_ble_eq_true rfl) ?_
        subst hPR
        refine ⟨rfl, _, rfl, ?_⟩
        unfold why
        rw [if_neg (by omega)]
        rw [if_neg (by omega), if_pos (by omega)]
    · refine X.iconst dX3_whyUnheard_34 (pc' := 35) rfl ?_
      refine X.iret dX3_whyUnheard_35 (Or.inl rfl) (Nat.le_of_ble_eq_true rfl) (Nat.le_of_ble_eq_true rfl) ?_
      subst hPR
      refine ⟨rfl, _, rfl, ?_⟩
      unfold why
      rw [if_neg (by omega)]
      rw [if_pos (by omega)]
  · refine X.iconst dX3_whyUnheard_15 (pc' := 16) rfl ?_
    refine X.iret dX3_whyUnheard_16 (Or.inl rfl) (Nat.le_of_ble_eq_true rfl) (Nat.le_of_ble_eq_true rfl) ?_
    subst hPR
    refine ⟨rfl, _, rfl, ?_⟩
    unfold why
    rw [if_pos (by omega)]
set_option maxHeartbeats 4000000 in
set_option maxRecDepth 100000 in
theorem k_X3_silentBeatsUntilHeard {Ω : xO} {h : xM} {a b : Nat} {A : aS} {n s : Int} (hP : RpS h a b) (hR : RC h b A) (hn : 0 ≤ n ∧ n < aW A) (hs : 0 ≤ s ∧ s < 6) : xCt Ω yX3_silentBeatsUntilHeard cX3_silentBeatsUntilHeard 4 (some .int) rm_X3_silentBeatsUntilHeard [rf a, vi n, vi s] h (fun q h' => h = h' ∧ ∃ r, q = some (vi r) ∧ r = sil A n s) xNo := by
  refine xCt_of (ini := false) (by decide +kernel) (Nat.le_of_ble_eq_true rfl) (fun q => absurd q (by decide)) ?_
  generalize hPR : (fun q h' => h = h' ∧ ∃ r, q = some (vi r) ∧ r = sil A n s : Option xV → xM → Prop) = PR
  have K0 : X Ω RX3 cX3_silentBeatsUntilHeard 4 (some .int) false rm_X3_silentBeatsUntilHeard PR xNo 0 0 0 [some (rf a), some (vi n), some (vi s), none] [] h := ?_
  exact K0
  have okA : aOK A := hR.1.2.1
  obtain ⟨okB, okN, okWl, okS, okW, okM, okC, okH⟩ := id hR.1.2.1
  refine X.aload_n (i := 0) rfl rfl dX3_silentBeatsUntilHeard_0 (pc' := 1) rfl ?_
  refine X.getR fk_X3_9 xcl_3 dX3_silentBeatsUntilHeard_1 hP.1 hP.2 (pc' := 4) rfl ?_
  refine X.getR fk_X3_38 xcl_0 dX3_silentBeatsUntilHeard_4 hR.1.1.1 hR.1.1.2.2.2.2.2.2.2.2.1.1 (pc' := 7) rfl ?_
  refine X.iload_n (i := 2) rfl rfl dX3_silentBeatsUntilHeard_7 (pc' := 8) rfl ?_
  refine X.aald13 dX3_silentBeatsUntilHeard_8 hR.1.1.2.2.2.2.2.2.2.2.1.2 (by omega) (by omega) ⟨by omega, by omega⟩ (hR.1.1.2.2.2.2.2.2.2.2.2.2.2.2.1 (s) (by omega) (by omega)).1 (pc' := 9) rfl ?_
  refine X.iload_n (i := 1) rfl rfl dX3_silentBeatsUntilHeard_9 (pc' := 10) rfl ?_
  refine X.iald (x := fh A s n) dX3_silentBeatsUntilHeard_10 (hR.1.1.2.2.2.2.2.2.2.2.2.2.2.2.1 (s) (by omega) (by omega)).2 (by omega) (by omega) ⟨by omega, by omega⟩ (hR.2.1 s n (by omega) (by omega) (by omega) (by omega)) (pc' := 11) rfl (fun r1 => ?_)
  obtain ⟨r1a, r1b⟩ := r1
  have r1c := fh_rng hR.1.2.1 s n (by omega) (by omega) (by omega) (by omega)
  refine X.iconst dX3_silentBeatsUntilHeard_11 (pc' := 12) rfl ?_
  refine X.icmp_eq (tgt := 17) dX3_silentBeatsUntilHeard_12 ⟨by omega, by omega⟩ ⟨by omega, by omega⟩ (by decide) (pc' := 15) rfl (fun c12 => ?_) (fun c12 => ?_)
  · refine X.iconst dX3_silentBeatsUntilHeard_17 (pc' := 18) rfl ?_
    refine X.istore_n (i := 3) (ls' := [some (rf a), some (vi n), some (vi s), some (vi 1)]) (hi := rfl) (hd := dX3_silentBeatsUntilHeard_18) (by decide) rfl rfl (pc' := 19) rfl ?_
    have L19 : ∀ (n19 : Nat) (t : Int), (61 - t).toNat < n19 → (1 ≤ t ∧ t ≤ 61 ∧ sil A n s = fhF (fun k => vce A s (aB A + k - 1)) n t (61 - t).toNat) → X Ω RX3 cX3_silentBeatsUntilHeard 4 (some .int) false rm_X3_silentBeatsUntilHeard PR xNo 0 0 19 [some (rf a), some (vi n), some (vi s), some (vi t)] [] h := by
      intro n19
      induction n19 with
      | zero => intro t hm _; exfalso; omega
      | succ n19 ih19 =>
        intro t hm19 hinv
        obtain ⟨ht0, ht6, hq⟩ := hinv
        refine X.iload_n (i := 3) rfl rfl dX3_silentBeatsUntilHeard_19 (pc' := 20) rfl ?_
        refine X.bipush (by decide +kernel) dX3_silentBeatsUntilHeard_20 (pc' := 22) rfl ?_
        refine X.icmp_gt (tgt := 56) dX3_silentBeatsUntilHeard_22 ⟨by omega, by omega⟩ ⟨by omega, by omega⟩ (by decide) (pc' := 25) rfl (fun c22 => ?_) (fun c22 => ?_)
        · refine X.iconst dX3_silentBeatsUntilHeard_56 (pc' := 57) rfl ?_
          refine X.iret dX3_silentBeatsUntilHeard_57 (Or.inl rfl) (Nat.le_of_ble_eq_true rfl) (Nat.le_of_ble_eq_true rfl) ?_
          subst hPR
          refine ⟨rfl, _, rfl, ?_⟩
          have e : t = 61 := by omega
          subst e
          rw [hq]
          rfl
        · refine X.aload_n (i := 0) rfl rfl dX3_silentBeatsUntilHeard_25 (pc' := 26) rfl ?_
          refine X.getR fk_X3_9 xcl_3 dX3_silentBeatsUntilHeard_26 hP.1 hP.2 (pc' := 29) rfl ?_
          refine X.iload_n (i := 2) rfl rfl dX3_silentBeatsUntilHeard_29 (pc' := 30) rfl ?_
          refine X.aload_n (i := 0) rfl rfl dX3_silentBeatsUntilHeard_30 (pc' := 31) rfl ?_
          refine X.getR fk_X3_9 xcl_3 dX3_silentBeatsUntilHeard_31 hP.1 hP.2 (pc' := 34) rfl ?_
          refine X.getI (x := aB A) fk_X3_61 xcl_0 dX3_silentBeatsUntilHeard_34 (by decide) hR.1.1.1 hR.1.2.2.1 (pc' := 37) rfl (fun r2 => ?_)
          obtain ⟨r2a, r2b⟩ := r2
          refine X.iload_n (i := 3) rfl rfl dX3_silentBeatsUntilHeard_37 (pc' := 38) rfl ?_
          refine X.iadd dX3_silentBeatsUntilHeard_38 (pc' := 39) rfl ?_
          refine X.iconst dX3_silentBeatsUntilHeard_39 (pc' := 40) rfl ?_
          refine X.isub dX3_silentBeatsUntilHeard_40 (pc' := 41) rfl ?_
          refine X.callV (ci := 0) (a := b) (rm := rm_X0_secondLast) (As := [vi s, vi (((aB A) + t) - 1)]) (st := []) dX3_silentBeatsUntilHeard_41 ck_X3_104 rfl (by decide) hR.1.1.1 rfl rfl ⟨Nat.le_of_ble_eq_true rfl, Nat.le_of_ble_eq_true rfl⟩ (Nat.le_of_ble_eq_true rfl) (Nat.le_of_ble_eq_true rfl) (Nat.le_of_ble_eq_true rfl) (pc' := 44) rfl (k_X0_secondLast hR.1 hs ⟨by omega, by omega⟩) (fun q3 hq3 eq3 => ?_) (fun _ _ x1 => x1.elim)
          obtain ⟨rfl, v, rfl, hv⟩ := eq3
          have hvr := voi_bnd (aW A) (aCo A s) (aSt A 2) (aB A + t - 1) okN.1
          have hvv : v = voi (aW A) (aCo A s) (aSt A 2) (aB A + t - 1) := hv
          have hst := fhF_step (g := fun k => vce A s (aB A + k - 1)) (n := n) (t := t) (by omega)
          refine X.iload_n (i := 1) rfl rfl dX3_silentBeatsUntilHeard_44 (pc' := 45) rfl ?_
          refine X.icmp_ne (tgt := 50) dX3_silentBeatsUntilHeard_45 ⟨by omega, by omega⟩ ⟨by omega, by omega⟩ (by decide) (pc' := 48) rfl (fun c45 => ?_) (fun c45 => ?_)
          · refine X.iinc (i := 3) (ls' := [some (rf a), some (vi n), some (vi s), some (vi (t + 1))]) dX3_silentBeatsUntilHeard_50 rfl (by decide) rfl rfl (pc' := 53) rfl ?_
            refine X.goto (tgt := 19) dX3_silentBeatsUntilHeard_53 (by decide) ?_
            refine ih19 (t + 1) (by omega) ?_
            refine ⟨by omega, by omega, ?_⟩
            rw [hq, hst, if_neg ?_]
            show ¬ vce A s (aB A + t - 1) = n
            omega
          · refine X.iload_n (i := 3) rfl rfl dX3_silentBeatsUntilHeard_48 (pc' := 49) rfl ?_
            refine X.iret dX3_silentBeatsUntilHeard_49 (Or.inl rfl) (Nat.le_of_ble_eq_true rfl) (Nat.le_of_ble_eq_true rfl) ?_
            subst hPR
            refine ⟨rfl, _, rfl, ?_⟩
            rw [hq, hst, if_pos ?_]
            show vce A s (aB A + t - 1) = n
            omega
    refine L19 _ 1 (Nat.lt_succ_self _) ?_
    refine ⟨by omega, by omega, ?_⟩
    unfold sil
    rw [if_neg (by omega)]
    rfl
  · refine X.iconst dX3_silentBeatsUntilHeard_15 (pc' := 16) rfl ?_
    refine X.iret dX3_silentBeatsUntilHeard_16 (Or.inl rfl) (Nat.le_of_ble_eq_true rfl) (Nat.le_of_ble_eq_true rfl) ?_
    subst hPR
    refine ⟨rfl, _, rfl, ?_⟩
    unfold sil
    rw [if_pos (by omega)]
set_option maxHeartbeats 4000000 in
set_option maxRecDepth 100000 in
theorem k_X3_bestPlace {Ω : xO} {h : xM} {a b : Nat} {A : aS} (hP : RpS h a b) (hR : RC h b A) : xCt Ω yX3_bestPlace cX3_bestPlace 9 (some .int) rm_X3_bestPlace [rf a] h (fun q h' => h = h' ∧ ∃ r, q = some (vi r) ∧ r = bst A) xNo := by
  refine xCt_of (ini := false) (by decide +kernel) (Nat.le_of_ble_eq_true rfl) (fun q => absurd q (by decide)) ?_
  generalize hPR : (fun q h' => h = h' ∧ ∃ r, q = some (vi r) ∧ r = bst A : Option xV → xM → Prop) = PR
  have K0 : X Ω RX3 cX3_bestPlace 9 (some .int) false rm_X3_bestPlace PR xNo 0 0 0 [some (rf a), none, none, none, none, none, none, none, none] [] h := ?_
  exact K0
  have okA : aOK A := hR.1.2.1
  obtain ⟨okB, okN, okWl, okS, okW, okM, okC, okH⟩ := id hR.1.2.1
  refine X.iconst dX3_bestPlace_0 (pc' := 1) rfl ?_
  refine X.istore_n (i := 1) (ls' := [some (rf a), some (vi 0), none, none, none, none, none, none, none]) (hi := rfl) (hd := dX3_bestPlace_1) (by decide) rfl rfl (pc' := 2) rfl ?_
  refine X.iconst dX3_bestPlace_2 (pc' := 3) rfl ?_
  refine X.istore_n (i := 2) (ls' := [some (rf a), some (vi 0), some (vi 0), none, none, none, none, none, none]) (hi := rfl) (hd := dX3_bestPlace_3) (by decide) rfl rfl (pc' := 4) rfl ?_
  refine X.iconst dX3_bestPlace_4 (pc' := 5) rfl ?_
  refine X.istore_n (i := 3) (ls' := [some (rf a), some (vi 0), some (vi 0), some (vi 0), none, none, none, none, none]) (hi := rfl) (hd := dX3_bestPlace_5) (by decide) rfl rfl (pc' := 6) rfl ?_
  refine X.iconst dX3_bestPlace_6 (pc' := 7) rfl ?_
  refine X.istore (i := 4) (ls' := [some (rf a), some (vi 0), some (vi 0), some (vi 0), some (vi 0), none, none, none, none]) (hd := dX3_bestPlace_7) (by decide) rfl rfl (pc' := 9) rfl ?_
  have L9 : ∀ (n9 : Nat) (be : Int) (mo : Int) (de : Int) (k : Int), (6 - k).toNat < n9 → (0 ≤ k ∧ k ≤ 6 ∧ ((k = 0 ∧ be = 0 ∧ mo = 0 ∧ de = 0) ∨ (1 ≤ k ∧ be = (bsF A k.toNat).1 ∧ mo = (bsF A k.toNat).2.1 ∧ de = (bsF A k.toNat).2.2))) → X Ω RX3 cX3_bestPlace 9 (some .int) false rm_X3_bestPlace PR xNo 0 0 9 [some (rf a), some (vi be), some (vi mo), some (vi de), some (vi k), none, none, none, none] [] h := by
    intro n9
    induction n9 with
    | zero => intro be mo de k hm _; exfalso; omega
    | succ n9 ih9 =>
      intro be mo de k hm9 hinv
      obtain ⟨hk0, hk6, hb⟩ := hinv
      have hbr := bsF_rng okA k.toNat (by omega)
      have hmo : -1 ≤ mo ∧ mo ≤ 6 := by omega
      have hde : 0 ≤ de ∧ de ≤ 19 := by omega
      refine X.iload (i := 4) rfl dX3_bestPlace_9 (pc' := 11) rfl ?_
      refine X.bipush (by decide +kernel) dX3_bestPlace_11 (pc' := 13) rfl ?_
      refine X.icmp_ge (tgt := 102) dX3_bestPlace_13 ⟨by omega, by omega⟩ ⟨by omega, by omega⟩ (by decide) (pc' := 16) rfl (fun c13 => ?_) (fun c13 => ?_)
      · refine X.iload_n (i := 1) rfl rfl dX3_bestPlace_102 (pc' := 103) rfl ?_
        refine X.iret dX3_bestPlace_103 (Or.inl rfl) (Nat.le_of_ble_eq_true rfl) (Nat.le_of_ble_eq_true rfl) ?_
        subst hPR
        have e : k = 6 := by omega
        subst e
        exact ⟨rfl, _, rfl, show be = (bsF A 6).1 by have := hb; have e7 : (6 : Int).toNat = 6 := rfl; rw [e7] at this; omega⟩
      · refine X.iconst dX3_bestPlace_16 (pc' := 17) rfl ?_
        refine X.istore (i := 5) (ls' := [some (rf a), some (vi be), some (vi mo), some (vi de), some (vi k), some (vi 0), none, none, none]) (hd := dX3_bestPlace_17) (by decide) rfl rfl (pc' := 19) rfl ?_
        refine X.iconst dX3_bestPlace_19 (pc' := 20) rfl ?_
        refine X.istore (i := 6) (ls' := [some (rf a), some (vi be), some (vi mo), some (vi de), some (vi k), some (vi 0), some (vi 0), none, none]) (hd := dX3_bestPlace_20) (by decide) rfl rfl (pc' := 22) rfl ?_
        refine X.iconst dX3_bestPlace_22 (pc' := 23) rfl ?_
        refine X.istore (i := 7) (ls' := [some (rf a), some (vi be), some (vi mo), some (vi de), some (vi k), some (vi 0), some (vi 0), some (vi 0), none]) (hd := dX3_bestPlace_23) (by decide) rfl rfl (pc' := 25) rfl ?_
        have L25 : ∀ (n25 : Nat) (re : Int) (lo : Int) (t : Int), (6 - t).toNat < n25 → (0 ≤ t ∧ t ≤ 6 ∧ re = (bsR A k t.toNat).1 ∧ lo = (bsR A k t.toNat).2) → X Ω RX3 cX3_bestPlace 9 (some .int) false rm_X3_bestPlace PR xNo 0 0 25 [some (rf a), some (vi be), some (vi mo), some (vi de), some (vi k), some (vi re), some (vi lo), some (vi t), none] [] h := by
          intro n25
          induction n25 with
          | zero => intro re lo t hm _; exfalso; omega
          | succ n25 ih25 =>
            intro re lo t hm25 hinv
            obtain ⟨ht0, ht6, hre, hlo⟩ := hinv
            have hrr := bsR_rng okA (x := k) ⟨by omega, by omega⟩ t.toNat (by omega)
            have hreb : 0 ≤ re ∧ re ≤ 6 := by omega
            have hlob : 0 ≤ lo ∧ lo ≤ 19 := by omega
            refine X.iload (i := 7) rfl dX3_bestPlace_25 (pc' := 27) rfl ?_
            refine X.bipush (by decide +kernel) dX3_bestPlace_27 (pc' := 29) rfl ?_
            refine X.icmp_ge (tgt := 69) dX3_bestPlace_29 ⟨by omega, by omega⟩ ⟨by omega, by omega⟩ (by decide) (pc' := 32) rfl (fun c29 => ?_) (fun c29 => ?_)
            · refine X.iload (i := 5) rfl dX3_bestPlace_69 (pc' := 71) rfl ?_
              refine X.iload_n (i := 2) rfl rfl dX3_bestPlace_71 (pc' := 72) rfl ?_
              refine X.icmp_gt (tgt := 87) dX3_bestPlace_72 ⟨by omega, by omega⟩ ⟨by omega, by omega⟩ (by decide) (pc' := 75) rfl (fun c72 => ?_) (fun c72 => ?_)
              · refine X.iload (i := 4) rfl dX3_bestPlace_87 (pc' := 89) rfl ?_
                refine X.istore_n (i := 1) (ls' := [some (rf a), some (vi k), some (vi mo), some (vi de), some (vi k), some (vi re), some (vi lo), some (vi t), none]) (hi := rfl) (hd := dX3_bestPlace_89) (by decide) rfl rfl (pc' := 90) rfl ?_
                refine X.iload (i := 5) rfl dX3_bestPlace_90 (pc' := 92) rfl ?_
                refine X.istore_n (i := 2) (ls' := [some (rf a), some (vi k), some (vi re), some (vi de), some (vi k), some (vi re), some (vi lo), some (vi t), none]) (hi := rfl) (hd := dX3_bestPlace_92) (by decide) rfl rfl (pc' := 93) rfl ?_
                refine X.iload (i := 6) rfl dX3_bestPlace_93 (pc' := 95) rfl ?_
                refine X.istore_n (i := 3) (ls' := [some (rf a), some (vi k), some (vi re), some (vi lo), some (vi k), some (vi re), some (vi lo), some (vi t), none]) (hi := rfl) (hd := dX3_bestPlace_95) (by decide) rfl rfl (pc' := 96) rfl ?_
                refine X.iinc (i := 4) (ls' := [some (rf a), some (vi k), some (vi re), some (vi lo), some (vi (k + 1)), some (vi re), some (vi lo), some (vi t), none]) dX3_bestPlace_96 rfl (by decide) rfl rfl (pc' := 99) rfl ?_
                refine X.goto (tgt := 9) dX3_bestPlace_99 (by decide) ?_
                refine X.mask (bs := [true, true, true, true, true, false, false, false, false]) (ls' := [some (rf a), some (vi k), some (vi re), some (vi lo), some (vi (k + 1)), none, none, none, none]) rfl ?_
                refine ih9 k re lo (k + 1) (by omega) ?_
                have hs6 := bsR_sum okA (x := k) ⟨by omega, by omega⟩
                have et : t = 6 := by omega
                subst et
                have hbF := bsF_at (A := A) hk0
                have he0 : k = 0 → (bsF A k.toNat).2.1 = -1 := fun z => by rw [z]; rfl
                have lo' : lo = (bsR A k 6).2 := hlo
                have re' : re = (bsR A k 6).1 := hre
                refine ⟨by omega, by omega, Or.inr ⟨by omega, ?_⟩⟩
                rw [hbF]
                rw [if_pos (by omega)]
                exact ⟨rfl, re', lo'⟩
              · refine X.iload (i := 5) rfl dX3_bestPlace_75 (pc' := 77) rfl ?_
                refine X.iload_n (i := 2) rfl rfl dX3_bestPlace_77 (pc' := 78) rfl ?_
                refine X.icmp_ne (tgt := 96) dX3_bestPlace_78 ⟨by omega, by omega⟩ ⟨by omega, by omega⟩ (by decide) (pc' := 81) rfl (fun c78 => ?_) (fun c78 => ?_)
                · refine X.iinc (i := 4) (ls' := [some (rf a), some (vi be), some (vi mo), some (vi de), some (vi (k + 1)), some (vi re), some (vi lo), some (vi t), none]) dX3_bestPlace_96 rfl (by decide) rfl rfl (pc' := 99) rfl ?_
                  refine X.goto (tgt := 9) dX3_bestPlace_99 (by decide) ?_
                  refine X.mask (bs := [true, true, true, true, true, false, false, false, false]) (ls' := [some (rf a), some (vi be), some (vi mo), some (vi de), some (vi (k + 1)), none, none, none, none]) rfl ?_
                  refine ih9 be mo de (k + 1) (by omega) ?_
                  have hs6 := bsR_sum okA (x := k) ⟨by omega, by omega⟩
                  have et : t = 6 := by omega
                  subst et
                  have hbF := bsF_at (A := A) hk0
                  have he0 : k = 0 → (bsF A k.toNat).2.1 = -1 := fun z => by rw [z]; rfl
                  have lo' : lo = (bsR A k 6).2 := hlo
                  have re' : re = (bsR A k 6).1 := hre
                  refine ⟨by omega, by omega, Or.inr ⟨by omega, ?_⟩⟩
                  rw [hbF]
                  by_cases z0 : k = 0
                  · rw [if_pos (by have := he0 z0; omega)]
                    refine ⟨?_, ?_, ?_⟩ <;> dsimp only <;> omega
                  · rw [if_neg (by omega)]
                    exact ⟨by omega, by omega, by omega⟩
                · refine X.iload (i := 6) rfl dX3_bestPlace_81 (pc' := 83) rfl ?_
                  refine X.iload_n (i := 3) rfl rfl dX3_bestPlace_83 (pc' := 84) rfl ?_
                  refine X.icmp_ge (tgt := 96) dX3_bestPlace_84 ⟨by omega, by omega⟩ ⟨by omega, by omega⟩ (by decide) (pc' := 87) rfl (fun c84 => ?_) (fun c84 => ?_)
                  · refine X.iinc (i := 4) (ls' := [some (rf a), some (vi be), some (vi mo), some (vi de), some (vi (k + 1)), some (vi re), some (vi lo), some (vi t), none]) dX3_bestPlace_96 rfl (by decide) rfl rfl (pc' := 99) rfl ?_
                    refine X.goto (tgt := 9) dX3_bestPlace_99 (by decide) ?_
                    refine X.mask (bs := [true, true, true, true, true, false, false, false, false]) (ls' := [some (rf a), some (vi be), some (vi mo), some (vi de), some (vi (k + 1)), none, none, none, none]) rfl ?_
                    refine ih9 be mo de (k + 1) (by omega) ?_
                    have hs6 := bsR_sum okA (x := k) ⟨by omega, by omega⟩
                    have et : t = 6 := by omega
                    subst et
                    have hbF := bsF_at (A := A) hk0
                    have he0 : k = 0 → (bsF A k.toNat).2.1 = -1 := fun z => by rw [z]; rfl
                    have lo' : lo = (bsR A k 6).2 := hlo
                    have re' : re = (bsR A k 6).1 := hre
                    refine ⟨by omega, by omega, Or.inr ⟨by omega, ?_⟩⟩
                    rw [hbF]
                    by_cases z0 : k = 0
                    · rw [if_pos (by have := he0 z0; omega)]
                      refine ⟨?_, ?_, ?_⟩ <;> dsimp only <;> omega
                    · rw [if_neg (by omega)]
                      exact ⟨by omega, by omega, by omega⟩
                  · refine X.iload (i := 4) rfl dX3_bestPlace_87 (pc' := 89) rfl ?_
                    refine X.istore_n (i := 1) (ls' := [some (rf a), some (vi k), some (vi mo), some (vi de), some (vi k), some (vi re), some (vi lo), some (vi t), none]) (hi := rfl) (hd := dX3_bestPlace_89) (by decide) rfl rfl (pc' := 90) rfl ?_
                    refine X.iload (i := 5) rfl dX3_bestPlace_90 (pc' := 92) rfl ?_
                    refine X.istore_n (i := 2) (ls' := [some (rf a), some (vi k), some (vi re), some (vi de), some (vi k), some (vi re), some (vi lo), some (vi t), none]) (hi := rfl) (hd := dX3_bestPlace_92) (by decide) rfl rfl (pc' := 93) rfl ?_
                    refine X.iload (i := 6) rfl dX3_bestPlace_93 (pc' := 95) rfl ?_
                    refine X.istore_n (i := 3) (ls' := [some (rf a), some (vi k), some (vi re), some (vi lo), some (vi k), some (vi re), some (vi lo), some (vi t), none]) (hi := rfl) (hd := dX3_bestPlace_95) (by decide) rfl rfl (pc' := 96) rfl ?_
                    refine X.iinc (i := 4) (ls' := [some (rf a), some (vi k), some (vi re), some (vi lo), some (vi (k + 1)), some (vi re), some (vi lo), some (vi t), none]) dX3_bestPlace_96 rfl (by decide) rfl rfl (pc' := 99) rfl ?_
                    refine X.goto (tgt := 9) dX3_bestPlace_99 (by decide) ?_
                    refine X.mask (bs := [true, true, true, true, true, false, false, false, false]) (ls' := [some (rf a), some (vi k), some (vi re), some (vi lo), some (vi (k + 1)), none, none, none, none]) rfl ?_
                    refine ih9 k re lo (k + 1) (by omega) ?_
                    have hs6 := bsR_sum okA (x := k) ⟨by omega, by omega⟩
                    have et : t = 6 := by omega
                    subst et
                    have hbF := bsF_at (A := A) hk0
                    have he0 : k = 0 → (bsF A k.toNat).2.1 = -1 := fun z => by rw [z]; rfl
                    have lo' : lo = (bsR A k 6).2 := hlo
                    have re' : re = (bsR A k 6).1 := hre
                    refine ⟨by omega, by omega, Or.inr ⟨by omega, ?_⟩⟩
                    rw [hbF]
                    rw [if_pos (by omega)]
                    exact ⟨rfl, re', lo'⟩
            · refine X.aload_n (i := 0) rfl rfl dX3_bestPlace_32 (pc' := 33) rfl ?_
              refine X.getR fk_X3_9 xcl_3 dX3_bestPlace_33 hP.1 hP.2 (pc' := 36) rfl ?_
              refine X.iload (i := 4) rfl dX3_bestPlace_36 (pc' := 38) rfl ?_
              refine X.iload (i := 7) rfl dX3_bestPlace_38 (pc' := 40) rfl ?_
              refine X.callV (ci := 0) (a := b) (rm := rm_X0_delayBetween) (As := [vi k, vi t]) (st := []) dX3_bestPlace_40 ck_X3_107 rfl (by decide) hR.1.1.1 rfl rfl ⟨Nat.le_of_ble_eq_true rfl, Nat.le_of_ble_eq_true rfl⟩ (Nat.le_of_ble_eq_true rfl) (Nat.le_of_ble_eq_true rfl) (Nat.le_of_ble_eq_true rfl) (pc' := 43) rfl (k_X0_delayBetween hR.1 ⟨by omega, by omega⟩ ⟨by omega, by omega⟩) (fun q1 hq1 eq1 => ?_) (fun _ _ x1 => x1.elim)
              obtain ⟨rfl, dd, rfl, hdd⟩ := eq1
              have hdr := dly_rng okA (x := k) (y := t) ⟨by omega, by omega⟩ ⟨by omega, by omega⟩
              refine X.istore (i := 8) (ls' := [some (rf a), some (vi be), some (vi mo), some (vi de), some (vi k), some (vi re), some (vi lo), some (vi t), some (vi dd)]) (hd := dX3_bestPlace_43) (by decide) rfl rfl (pc' := 45) rfl ?_
              refine X.iload (i := 8) rfl dX3_bestPlace_45 (pc' := 47) rfl ?_
              refine X.iconst dX3_bestPlace_47 (pc' := 48) rfl ?_
              refine X.icmp_eq (tgt := 63) dX3_bestPlace_48 ⟨by omega, by omega⟩ ⟨by omega, by omega⟩ (by decide) (pc' := 51) rfl (fun c48 => ?_) (fun c48 => ?_)
              · refine X.iinc (i := 7) (ls' := [some (rf a), some (vi be), some (vi mo), some (vi de), some (vi k), some (vi re), some (vi lo), some (vi (t + 1)), some (vi dd)]) dX3_bestPlace_63 rfl (by decide) rfl rfl (pc' := 66) rfl ?_
                refine X.goto (tgt := 25) dX3_bestPlace_66 (by decide) ?_
                refine X.mask (bs := [true, true, true, true, true, true, true, true, false]) (ls' := [some (rf a), some (vi be), some (vi mo), some (vi de), some (vi k), some (vi re), some (vi lo), some (vi (t + 1)), none]) rfl ?_
                refine ih25 re lo (t + 1) (by omega) ?_
                refine ⟨by omega, by omega, ?_⟩
                rw [bsR_no ht0 (by omega)]
                exact ⟨hre, hlo⟩
              · refine X.iinc (i := 5) (ls' := [some (rf a), some (vi be), some (vi mo), some (vi de), some (vi k), some (vi (re + 1)), some (vi lo), some (vi t), some (vi dd)]) dX3_bestPlace_51 rfl (by decide) rfl rfl (pc' := 54) rfl ?_
                refine X.iload (i := 6) rfl dX3_bestPlace_54 (pc' := 56) rfl ?_
                refine X.iload (i := 8) rfl dX3_bestPlace_56 (pc' := 58) rfl ?_
                refine X.mmax dX3_bestPlace_58 wd_192 wd_193 wd_31 wd_194 ⟨Nat.le_of_ble_eq_true rfl, Nat.le_of_ble_eq_true rfl, Nat.le_of_ble_eq_true rfl, Nat.le_of_ble_eq_true rfl⟩ ⟨by omega, by omega⟩ ⟨by omega, by omega⟩ (pc' := 61) rfl (fun z2 hz2 => ?_)
                refine X.istore (i := 6) (ls' := [some (rf a), some (vi be), some (vi mo), some (vi de), some (vi k), some (vi (re + 1)), some (vi z2), some (vi t), some (vi dd)]) (hd := dX3_bestPlace_61) (by decide) rfl rfl (pc' := 63) rfl ?_
                refine X.iinc (i := 7) (ls' := [some (rf a), some (vi be), some (vi mo), some (vi de), some (vi k), some (vi (re + 1)), some (vi z2), some (vi (t + 1)), some (vi dd)]) dX3_bestPlace_63 rfl (by decide) rfl rfl (pc' := 66) rfl ?_
                refine X.goto (tgt := 25) dX3_bestPlace_66 (by decide) ?_
                refine X.mask (bs := [true, true, true, true, true, true, true, true, false]) (ls' := [some (rf a), some (vi be), some (vi mo), some (vi de), some (vi k), some (vi (re + 1)), some (vi z2), some (vi (t + 1)), none]) rfl ?_
                refine ih25 (re + 1) z2 (t + 1) (by omega) ?_
                refine ⟨by omega, by omega, ?_⟩
                have g1 := bsR_in (A := A) (x := k) ht0 (by omega)
                have hdd2 : dd = dly A k t := by omega
                rw [g1.1, g1.2, ← hdd2, ← hlo]
                refine ⟨by omega, ?_⟩
                split <;> omega
        refine L25 _ 0 0 0 (Nat.lt_succ_self _) ?_
        exact ⟨by omega, by omega, rfl, rfl⟩
  refine L9 _ 0 0 0 0 (Nat.lt_succ_self _) ?_
  exact ⟨by omega, by omega, Or.inl ⟨rfl, rfl, rfl, rfl⟩⟩
