set_option maxHeartbeats 4000000 in
set_option maxRecDepth 100000 in
theorem k_X5_digest {Ω : xO} {h : xM} {x lo : Nat} {L : lS} (hE : EL h x lo L) : xCt Ω yX5_digest cX5_digest 3 (some .long) rm_X5_digest [rf x] h (fun q h' => q = some (vl (dig L)) ∧ EL h' x lo L ∧ EF h h' x lo) xNo := by
  refine xCt_of (ini := false) (by decide +kernel) (Nat.le_of_ble_eq_true rfl) (fun q => absurd q (by decide)) ?_
  generalize hPR : (fun q h' => q = some (vl (dig L)) ∧ EL h' x lo L ∧ EF h h' x lo : Option xV → xM → Prop) = PR
  have K0 : X Ω RX5 cX5_digest 3 (some .long) false rm_X5_digest PR xNo 0 0 0 [some (rf x), none, none] [] h := ?_
  exact K0
  have okA : aOK (lA L) := hE.2.1.1.2.1
  obtain ⟨okB, okN, okWl, okS, okW, okM, okC, okH⟩ := id hE.2.1.1.2.1
  have hlo := hE.2.2.2.2.2.2
  have hz6 := hE.2.2.1.2.2.1
  have hnB : mI h (x + 1) 0 = aB (lA L) := hE.2.1.1.2.2.1
  have hnW : mI h (x + 1) 1 = aW (lA L) := hE.2.1.1.2.2.2.1
  have hHz : mI h (x + 31) 0 = lZ L := hE.2.2.1.2.1
  have hTn : mI h (x + 33) 0 = lTn L := hE.2.2.2.2.1.1
  have hTr := hE.2.2.2.2.1.2.1
  refine X.new (ci := 1) dX5_digest_0 xcl_1 (by decide) rfl wd_283 wd_284 wd_74 (Nat.le_of_ble_eq_true rfl) (Nat.le_of_ble_eq_true rfl) (pc' := 3) rfl ?_
  refine X.genH (fun h1 hh1 => ?_)
  have hN1 : mN h1 = mN h + 1 := by rw [hh1, mN_aL]
  refine X.dup rfl dX5_digest_3 (pc' := 4) rfl ?_
  refine X.callIN (a := mN h) (rm := rm_X1_init) (As := []) (st := [rf (mN h)]) dX5_digest_4 ck_X5_181 rfl rfl rfl ⟨Nat.le_of_ble_eq_true rfl, Nat.le_of_ble_eq_true rfl⟩ (Nat.le_of_ble_eq_true rfl) (Nat.le_of_ble_eq_true rfl) (Nat.le_of_ble_eq_true rfl) (pc' := 7) rfl (k_X1_init (by rw [hh1, mT_aL, if_pos rfl]) hN1) (fun q2 hq2 eq2 => ?_)
  obtain ⟨rfl, hTn, hLn, hNn⟩ := eq2
  have hNw : NewS h hq2 (mN h) 1 := ⟨hNn.1, fun c hc => by
    obtain ⟨z1, z2, z3, z4⟩ := hNn.2 c hc
    have zc : c ≠ mN h := by omega
    exact ⟨by rw [z1, hh1, mT_aL, if_neg zc], by rw [z2, hh1]; funext j; rw [mI_aL, if_neg zc], by rw [z3, hh1]; funext j; rw [mR_aL, if_neg zc], by rw [z4, hh1]; funext j; rw [mL_aL, if_neg zc]⟩⟩
  have hUp := hE.up (g := hq2) (by rw [hNw.1]; omega) (fun c hc => hNw.sam (Or.inl hc))
  have hE0 : EL hq2 x lo L := hUp.1
  have hSt : hq2 = sL hq2 (mN h) 0 3853 := by
    have := sL_id hq2 (mN h)
    rw [hLn] at this
    exact this.symm
  rw [hSt]
  refine X.astore_n (i := 1) (ls' := [some (rf x), some (rf (mN h)), none]) (hi := rfl) (hd := dX5_digest_7) (by decide) rfl rfl (pc' := 8) rfl ?_
  refine X.iconst dX5_digest_8 (pc' := 9) rfl ?_
  refine X.istore_n (i := 2) (ls' := [some (rf x), some (rf (mN h)), some (vi 0)]) (hi := rfl) (hd := dX5_digest_9) (by decide) rfl rfl (pc' := 10) rfl ?_
  have L10 : ∀ (n10 : Nat) (v : Int64) (k : Int), (10 - k).toNat < n10 → (0 ≤ k ∧ k ≤ 10 ∧ v = itF (fun k => tkV (dgO L k)) 3853 k.toNat) → X Ω RX5 cX5_digest 3 (some .long) false rm_X5_digest PR xNo 1 1 10 [some (rf x), some (rf (mN h)), some (vi k)] [] ((sL hq2 (mN h) 0 v)) := by
    intro n10
    induction n10 with
    | zero => intro v k hm _; exfalso; omega
    | succ n10 ih10 =>
      intro v k hm10 hinv
      obtain ⟨hk0, hk9, hv⟩ := hinv
      refine X.iload_n (i := 2) rfl rfl dX5_digest_10 (pc' := 11) rfl ?_
      refine X.bipush (by decide +kernel) dX5_digest_11 (pc' := 13) rfl ?_
      refine X.icmp_gt (tgt := 32) dX5_digest_13 ⟨by omega, by omega⟩ ⟨by omega, by omega⟩ (by decide) (pc' := 16) rfl (fun c13 => ?_) (fun c13 => ?_)
      · refine X.aload_n (i := 0) rfl rfl dX5_digest_32 (pc' := 33) rfl ?_
        refine X.aload_n (i := 1) rfl rfl dX5_digest_33 (pc' := 34) rfl ?_
        refine X.callV (ci := 5) (a := x) (rm := rm_X5_takeSpeakers) (As := [rf (mN h)]) (st := []) dX5_digest_34 ck_X5_186 rfl (by decide) hE0.1.1 rfl rfl ⟨Nat.le_of_ble_eq_true rfl, Nat.le_of_ble_eq_true rfl⟩ (Nat.le_of_ble_eq_true rfl) (Nat.le_of_ble_eq_true rfl) (Nat.le_of_ble_eq_true rfl) (pc' := 37) rfl (k_X5_takeSpeakers (h := (sL hq2 (mN h) 0 v)) (a := mN h) hE0 hTn) (fun q3 hq3 eq3 => ?_) (fun _ _ x1 => x1.elim)
        obtain ⟨rfl, rfl⟩ := eq3
        rw [sL_sL, mL_at]
        refine X.aload_n (i := 0) rfl rfl dX5_digest_37 (pc' := 38) rfl ?_
        refine X.aload_n (i := 1) rfl rfl dX5_digest_38 (pc' := 39) rfl ?_
        refine X.callV (ci := 5) (a := x) (rm := rm_X5_takeLatestWords) (As := [rf (mN h)]) (st := []) dX5_digest_39 ck_X5_190 rfl (by decide) hE0.1.1 rfl rfl ⟨Nat.le_of_ble_eq_true rfl, Nat.le_of_ble_eq_true rfl⟩ (Nat.le_of_ble_eq_true rfl) (Nat.le_of_ble_eq_true rfl) (Nat.le_of_ble_eq_true rfl) (pc' := 42) rfl (k_X5_takeLatestWords (h := (sL hq2 (mN h) 0 (dgS (lA L) v))) (a := mN h) hE0 hTn) (fun q4 hq4 eq4 => ?_) (fun _ _ x1 => x1.elim)
        obtain ⟨rfl, rfl⟩ := eq4
        rw [sL_sL, mL_at]
        refine X.aload_n (i := 0) rfl rfl dX5_digest_42 (pc' := 43) rfl ?_
        refine X.aload_n (i := 1) rfl rfl dX5_digest_43 (pc' := 44) rfl ?_
        refine X.callV (ci := 5) (a := x) (rm := rm_X5_takeLatestBeats) (As := [rf (mN h)]) (st := []) dX5_digest_44 ck_X5_193 rfl (by decide) hE0.1.1 rfl rfl ⟨Nat.le_of_ble_eq_true rfl, Nat.le_of_ble_eq_true rfl⟩ (Nat.le_of_ble_eq_true rfl) (Nat.le_of_ble_eq_true rfl) (Nat.le_of_ble_eq_true rfl) (pc' := 47) rfl (k_X5_takeLatestBeats (h := (sL hq2 (mN h) 0 (dgW (lA L) ((dgS (lA L) v))))) (a := mN h) hE0 hTn) (fun q5 hq5 eq5 => ?_) (fun _ _ x1 => x1.elim)
        obtain ⟨rfl, rfl⟩ := eq5
        rw [sL_sL, mL_at]
        refine X.aload_n (i := 0) rfl rfl dX5_digest_47 (pc' := 48) rfl ?_
        refine X.aload_n (i := 1) rfl rfl dX5_digest_48 (pc' := 49) rfl ?_
        refine X.callV (ci := 5) (a := x) (rm := rm_X5_takeMessages) (As := [rf (mN h)]) (st := []) dX5_digest_49 ck_X5_196 rfl (by decide) hE0.1.1 rfl rfl ⟨Nat.le_of_ble_eq_true rfl, Nat.le_of_ble_eq_true rfl⟩ (Nat.le_of_ble_eq_true rfl) (Nat.le_of_ble_eq_true rfl) (Nat.le_of_ble_eq_true rfl) (pc' := 52) rfl (k_X5_takeMessages (h := (sL hq2 (mN h) 0 (dgB (lA L) ((dgW (lA L) ((dgS (lA L) v))))))) (a := mN h) hE0 hTn) (fun q6 hq6 eq6 => ?_) (fun _ _ x1 => x1.elim)
        obtain ⟨rfl, rfl⟩ := eq6
        rw [sL_sL, mL_at]
        refine X.iconst dX5_digest_52 (pc' := 53) rfl ?_
        refine X.istore_n (i := 2) (ls' := [some (rf x), some (rf (mN h)), some (vi 0)]) (hi := rfl) (hd := dX5_digest_53) (by decide) rfl rfl (pc' := 54) rfl ?_
        have L54 : ∀ (n54 : Nat) (z : Int64) (t : Int), (6 - t).toNat < n54 → (0 ≤ t ∧ t ≤ 6 ∧ z = itF (fun s => tkV (dsl (lA L) s)) (dgM (lA L) (dgB (lA L) (dgW (lA L) (dgS (lA L) v)))) t.toNat) → X Ω RX5 cX5_digest 3 (some .long) false rm_X5_digest PR xNo 1 1 54 [some (rf x), some (rf (mN h)), some (vi t)] [] ((sL hq2 (mN h) 0 z)) := by
          intro n54
          induction n54 with
          | zero => intro z t hm _; exfalso; omega
          | succ n54 ih54 =>
            intro z t hm54 hinv
            obtain ⟨ht0, ht6, hz⟩ := hinv
            refine X.iload_n (i := 2) rfl rfl dX5_digest_54 (pc' := 55) rfl ?_
            refine X.bipush (by decide +kernel) dX5_digest_55 (pc' := 57) rfl ?_
            refine X.icmp_ge (tgt := 104) dX5_digest_57 ⟨by omega, by omega⟩ ⟨by omega, by omega⟩ (by decide) (pc' := 60) rfl (fun c57 => ?_) (fun c57 => ?_)
            · refine X.aload_n (i := 1) rfl rfl dX5_digest_104 (pc' := 105) rfl ?_
              refine X.aload_n (i := 0) rfl rfl dX5_digest_105 (pc' := 106) rfl ?_
              refine X.getR fk_X5_21 xcl_5 dX5_digest_106 hE0.1.1 hE0.1.2.2.1 (pc' := 109) rfl ?_
              refine X.callV (ci := 3) (a := (x + 30)) (rm := rm_X3_bestPlace) (As := []) (st := [rf (mN h)]) dX5_digest_109 ck_X5_172 rfl (by decide) hE0.1.2.2.2.2.2.2.1.1 rfl rfl ⟨Nat.le_of_ble_eq_true rfl, Nat.le_of_ble_eq_true rfl⟩ (Nat.le_of_ble_eq_true rfl) (Nat.le_of_ble_eq_true rfl) (Nat.le_of_ble_eq_true rfl) (pc' := 112) rfl (k_X3_bestPlace (h := (sL hq2 (mN h) 0 z)) hE0.1.2.2.2.2.2.2.1 hE0.2.1) (fun q7 hq7 eq7 => ?_) (fun _ _ x1 => x1.elim)
              obtain ⟨rfl, bs, rfl, hbs⟩ := eq7
              have hbr := bst_rng okA
              refine X.i2l ⟨by omega, by omega⟩ dX5_digest_112 (pc' := 113) rfl ?_
              refine X.callV (ci := 1) (a := mN h) (rm := rm_X1_take) (As := [vl (Int64.ofInt bs)]) (st := []) dX5_digest_113 ck_X5_182 rfl (by decide) hTn rfl rfl ⟨Nat.le_of_ble_eq_true rfl, Nat.le_of_ble_eq_true rfl⟩ (Nat.le_of_ble_eq_true rfl) (Nat.le_of_ble_eq_true rfl) (Nat.le_of_ble_eq_true rfl) (pc' := 116) rfl (k_X1_take (h := (sL hq2 (mN h) 0 z)) hTn) (fun q8 hq8 eq8 => ?_) (fun _ _ x1 => x1.elim)
              obtain ⟨rfl, rfl⟩ := eq8
              rw [sL_sL, mL_at]
              refine X.aload_n (i := 1) rfl rfl dX5_digest_116 (pc' := 117) rfl ?_
              refine X.aload_n (i := 0) rfl rfl dX5_digest_117 (pc' := 118) rfl ?_
              refine X.getR fk_X5_21 xcl_5 dX5_digest_118 hE0.1.1 hE0.1.2.2.1 (pc' := 121) rfl ?_
              refine X.callV (ci := 3) (a := (x + 30)) (rm := rm_X3_share) (As := []) (st := [rf (mN h)]) dX5_digest_121 ck_X5_175 rfl (by decide) hE0.1.2.2.2.2.2.2.1.1 rfl rfl ⟨Nat.le_of_ble_eq_true rfl, Nat.le_of_ble_eq_true rfl⟩ (Nat.le_of_ble_eq_true rfl) (Nat.le_of_ble_eq_true rfl) (Nat.le_of_ble_eq_true rfl) (pc' := 124) rfl (k_X3_share (h := (sL hq2 (mN h) 0 (31 * z + Int64.ofInt bs))) hE0.1.2.2.2.2.2.2.1 hE0.2.1) (fun q9 hq9 eq9 => ?_) (fun _ _ x1 => x1.elim)
              obtain ⟨rfl, rfl⟩ := eq9
              refine X.callS (rm := rm_X1_bitsOf) (As := [vd (shr (lA L))]) (st := [rf (mN h)]) dX5_digest_124 ck_X5_201 rfl rfl ⟨Nat.le_of_ble_eq_true rfl, Nat.le_of_ble_eq_true rfl⟩ (Nat.le_of_ble_eq_true rfl) (Nat.le_of_ble_eq_true rfl) (Nat.le_of_ble_eq_true rfl) (pc' := 127) rfl (k_X1_bitsOfS (h := (sL hq2 (mN h) 0 (31 * z + Int64.ofInt bs))) (shr_ok okA)) (fun q10 hq10 eq10 => ?_) (fun _ _ x1 => x1.elim)
              obtain ⟨rfl, rfl⟩ := eq10
              refine X.callV (ci := 1) (a := mN h) (rm := rm_X1_take) (As := [vl ((shr (lA L)).toInt64)]) (st := []) dX5_digest_127 ck_X5_182 rfl (by decide) hTn rfl rfl ⟨Nat.le_of_ble_eq_true rfl, Nat.le_of_ble_eq_true rfl⟩ (Nat.le_of_ble_eq_true rfl) (Nat.le_of_ble_eq_true rfl) (Nat.le_of_ble_eq_true rfl) (pc' := 130) rfl (k_X1_take (h := (sL hq2 (mN h) 0 (31 * z + Int64.ofInt bs))) hTn) (fun q11 hq11 eq11 => ?_) (fun _ _ x1 => x1.elim)
              obtain ⟨rfl, rfl⟩ := eq11
              rw [sL_sL, mL_at]
              refine X.aload_n (i := 1) rfl rfl dX5_digest_130 (pc' := 131) rfl ?_
              refine X.aload_n (i := 0) rfl rfl dX5_digest_131 (pc' := 132) rfl ?_
              refine X.getR fk_X5_35 xcl_5 dX5_digest_132 hE0.1.1 hE0.1.2.2.2.2.1 (pc' := 135) rfl ?_
              refine X.getI (x := lTn L) fk_X5_100 xcl_4 dX5_digest_135 (by decide) hE0.1.2.2.2.2.2.2.2.2.1 hE0.2.2.2.2.1.1 (pc' := 138) rfl (fun r12 => ?_)
              obtain ⟨r12a, r12b⟩ := r12
              refine X.i2l ⟨by omega, by omega⟩ dX5_digest_138 (pc' := 139) rfl ?_
              refine X.callV (ci := 1) (a := mN h) (rm := rm_X1_take) (As := [vl (Int64.ofInt (lTn L))]) (st := []) dX5_digest_139 ck_X5_182 rfl (by decide) hTn rfl rfl ⟨Nat.le_of_ble_eq_true rfl, Nat.le_of_ble_eq_true rfl⟩ (Nat.le_of_ble_eq_true rfl) (Nat.le_of_ble_eq_true rfl) (Nat.le_of_ble_eq_true rfl) (pc' := 142) rfl (k_X1_take (h := (sL hq2 (mN h) 0 (31 * ((31 * z + Int64.ofInt bs)) + (shr (lA L)).toInt64))) hTn) (fun q13 hq13 eq13 => ?_) (fun _ _ x1 => x1.elim)
              obtain ⟨rfl, rfl⟩ := eq13
              rw [sL_sL, mL_at]
              refine X.iconst dX5_digest_142 (pc' := 143) rfl ?_
              refine X.istore_n (i := 2) (ls' := [some (rf x), some (rf (mN h)), some (vi 0)]) (hi := rfl) (hd := dX5_digest_143) (by decide) rfl rfl (pc' := 144) rfl ?_
              have L144 : ∀ (n144 : Nat) (y : Int64) (k1 : Int), (lTn L - k1).toNat < n144 → (0 ≤ k1 ∧ k1 ≤ lTn L ∧ y = itF (fun k => tkV (lTg L k)) (tkV (lTn L) (31 * tkV (bst (lA L)) z + (shr (lA L)).toInt64)) k1.toNat) → X Ω RX5 cX5_digest 3 (some .long) false rm_X5_digest PR xNo 1 1 144 [some (rf x), some (rf (mN h)), some (vi k1)] [] ((sL hq2 (mN h) 0 y)) := by
                intro n144
                induction n144 with
                | zero => intro y k1 hm _; exfalso; omega
                | succ n144 ih144 =>
                  intro y k1 hm144 hinv
                  obtain ⟨hk0, hkn, hy⟩ := hinv
                  refine X.iload_n (i := 2) rfl rfl dX5_digest_144 (pc' := 145) rfl ?_
                  refine X.aload_n (i := 0) rfl rfl dX5_digest_145 (pc' := 146) rfl ?_
                  refine X.getR fk_X5_35 xcl_5 dX5_digest_146 hE0.1.1 hE0.1.2.2.2.2.1 (pc' := 149) rfl ?_
                  refine X.getI (x := lTn L) fk_X5_100 xcl_4 dX5_digest_149 (by decide) hE0.1.2.2.2.2.2.2.2.2.1 hE0.2.2.2.2.1.1 (pc' := 152) rfl (fun r14 => ?_)
                  obtain ⟨r14a, r14b⟩ := r14
                  refine X.icmp_ge (tgt := 175) dX5_digest_152 ⟨by omega, by omega⟩ ⟨by omega, by omega⟩ (by decide) (pc' := 155) rfl (fun c152 => ?_) (fun c152 => ?_)
                  · refine X.aload_n (i := 1) rfl rfl dX5_digest_175 (pc' := 176) rfl ?_
                    refine X.getL (x := mL ((sL hq2 (mN h) 0 y)) (mN h) 0) fk_X5_209 xcl_1 dX5_digest_176 hTn rfl (pc' := 179) rfl ?_
                    refine X.lret dX5_digest_179 rfl (Nat.le_of_ble_eq_true rfl) (Nat.le_of_ble_eq_true rfl) ?_
                    subst hPR
                    have e1 : v = dgA L 3853 := by rw [hv, show k = 10 by omega]; rfl
                    have e2 : z = dgL (lA L) (dgM (lA L) (dgB (lA L) (dgW (lA L) (dgS (lA L) v)))) := by rw [hz, show t = 6 by omega]; rfl
                    have e3 : y = dgT L (tkV (lTn L) (31 * tkV (bst (lA L)) z + (shr (lA L)).toInt64)) := by rw [hy, show k1 = lTn L by omega]; rfl
                    refine ⟨?_, hE0, EF_sL hUp.2 (by omega)⟩
                    rw [mL_at, e3, e2, e1]
                    rfl
                  · refine X.aload_n (i := 1) rfl rfl dX5_digest_155 (pc' := 156) rfl ?_
                    refine X.aload_n (i := 0) rfl rfl dX5_digest_156 (pc' := 157) rfl ?_
                    refine X.getR fk_X5_35 xcl_5 dX5_digest_157 hE0.1.1 hE0.1.2.2.2.2.1 (pc' := 160) rfl ?_
                    refine X.getR fk_X5_205 xcl_4 dX5_digest_160 hE0.1.2.2.2.2.2.2.2.2.1 hE0.1.2.2.2.2.2.2.2.2.2.1 (pc' := 163) rfl ?_
                    refine X.iload_n (i := 2) rfl rfl dX5_digest_163 (pc' := 164) rfl ?_
                    refine X.cald (x := lTg L k1) dX5_digest_164 hE0.1.2.2.2.2.2.2.2.2.2.2 (by omega) (by omega) ⟨by omega, by omega⟩ (mI_at (hE0.2.2.2.2.1.2.2 k1 (by omega) (by omega)).1 (by omega)) (pc' := 165) rfl (fun r15 => ?_)
                    obtain ⟨r15a, r15b⟩ := r15
                    have r15c := (hE0.2.2.2.2.1.2.2 k1 (by omega) (by omega)).2
                    refine X.i2l ⟨by omega, by omega⟩ dX5_digest_165 (pc' := 166) rfl ?_
                    refine X.callV (ci := 1) (a := mN h) (rm := rm_X1_take) (As := [vl (Int64.ofInt (lTg L k1))]) (st := []) dX5_digest_166 ck_X5_182 rfl (by decide) hTn rfl rfl ⟨Nat.le_of_ble_eq_true rfl, Nat.le_of_ble_eq_true rfl⟩ (Nat.le_of_ble_eq_true rfl) (Nat.le_of_ble_eq_true rfl) (Nat.le_of_ble_eq_true rfl) (pc' := 169) rfl (k_X1_take (h := (sL hq2 (mN h) 0 y)) hTn) (fun q16 hq16 eq16 => ?_) (fun _ _ x1 => x1.elim)
                    obtain ⟨rfl, rfl⟩ := eq16
                    rw [sL_sL, mL_at]
                    refine X.iinc (i := 2) (ls' := [some (rf x), some (rf (mN h)), some (vi (k1 + 1))]) dX5_digest_169 rfl (by decide) rfl rfl (pc' := 172) rfl ?_
                    refine X.goto (tgt := 144) dX5_digest_172 (by decide) ?_
                    refine ih144 ((31 * y + Int64.ofInt (lTg L k1))) (k1 + 1) (by omega) ?_
                    exact ⟨by omega, by omega, by rw [itF_at hk0, ← hy]; rfl⟩
              refine L144 _ ((31 * ((31 * ((31 * z + Int64.ofInt bs)) + (shr (lA L)).toInt64)) + Int64.ofInt (lTn L))) 0 (Nat.lt_succ_self _) ?_
              exact ⟨by omega, by omega, by rw [hbs]; rfl⟩
            · refine X.aload_n (i := 1) rfl rfl dX5_digest_60 (pc' := 61) rfl ?_
              refine X.aload_n (i := 0) rfl rfl dX5_digest_61 (pc' := 62) rfl ?_
              refine X.getR fk_X5_10 xcl_5 dX5_digest_62 hE0.1.1 hE0.1.2.1 (pc' := 65) rfl ?_
              refine X.getI (x := aW (lA L)) fk_X5_116 xcl_0 dX5_digest_65 (by decide) hE0.2.1.1.1.1 hE0.2.1.1.2.2.2.1 (pc' := 68) rfl (fun r17 => ?_)
              obtain ⟨r17a, r17b⟩ := r17
              refine X.if_le (tgt := 92) dX5_digest_68 ⟨by omega, by omega⟩ (by decide) (pc' := 71) rfl (fun c68 => ?_) (fun c68 => ?_)
              · refine X.ldc2 (v := -1) wd_402 dX5_digest_92 (pc' := 95) rfl ?_
                refine X.callV (ci := 1) (a := mN h) (rm := rm_X1_take) (As := [vl (-1)]) (st := []) dX5_digest_95 ck_X5_182 rfl (by decide) hTn rfl rfl ⟨Nat.le_of_ble_eq_true rfl, Nat.le_of_ble_eq_true rfl⟩ (Nat.le_of_ble_eq_true rfl) (Nat.le_of_ble_eq_true rfl) (Nat.le_of_ble_eq_true rfl) (pc' := 98) rfl (k_X1_take (h := (sL hq2 (mN h) 0 z)) hTn) (fun q18 hq18 eq18 => ?_) (fun _ _ x1 => x1.elim)
                obtain ⟨rfl, rfl⟩ := eq18
                rw [sL_sL, mL_at]
                refine X.iinc (i := 2) (ls' := [some (rf x), some (rf (mN h)), some (vi (t + 1))]) dX5_digest_98 rfl (by decide) rfl rfl (pc' := 101) rfl ?_
                refine X.goto (tgt := 54) dX5_digest_101 (by decide) ?_
                refine ih54 ((31 * z + -1)) (t + 1) (by omega) ?_
                exact ⟨by omega, by omega, by rw [itF_at ht0, ← hz, show dsl (lA L) t = -1 by unfold dsl; rw [if_neg (by omega)]]; rfl⟩
              · refine X.aload_n (i := 0) rfl rfl dX5_digest_71 (pc' := 72) rfl ?_
                refine X.getR fk_X5_21 xcl_5 dX5_digest_72 hE0.1.1 hE0.1.2.2.1 (pc' := 75) rfl ?_
                refine X.aload_n (i := 0) rfl rfl dX5_digest_75 (pc' := 76) rfl ?_
                refine X.getR fk_X5_10 xcl_5 dX5_digest_76 hE0.1.1 hE0.1.2.1 (pc' := 79) rfl ?_
                refine X.getI (x := aW (lA L)) fk_X5_116 xcl_0 dX5_digest_79 (by decide) hE0.2.1.1.1.1 hE0.2.1.1.2.2.2.1 (pc' := 82) rfl (fun r19 => ?_)
                obtain ⟨r19a, r19b⟩ := r19
                refine X.iconst dX5_digest_82 (pc' := 83) rfl ?_
                refine X.isub dX5_digest_83 (pc' := 84) rfl ?_
                refine X.iload_n (i := 2) rfl rfl dX5_digest_84 (pc' := 85) rfl ?_
                refine X.callV (ci := 3) (a := (x + 30)) (rm := rm_X3_silentBeatsUntilHeard) (As := [vi ((aW (lA L)) - 1), vi t]) (st := [rf (mN h)]) dX5_digest_85 ck_X5_169 rfl (by decide) hE0.1.2.2.2.2.2.2.1.1 rfl rfl ⟨Nat.le_of_ble_eq_true rfl, Nat.le_of_ble_eq_true rfl⟩ (Nat.le_of_ble_eq_true rfl) (Nat.le_of_ble_eq_true rfl) (Nat.le_of_ble_eq_true rfl) (pc' := 88) rfl (k_X3_silentBeatsUntilHeard (h := (sL hq2 (mN h) 0 z)) hE0.1.2.2.2.2.2.2.1 hE0.2.1 ⟨by omega, by omega⟩ ⟨by omega, by omega⟩) (fun q20 hq20 eq20 => ?_) (fun _ _ x1 => x1.elim)
                obtain ⟨rfl, r, rfl, hr⟩ := eq20
                have hrr := sil_rng (lA L) (aW (lA L) - 1) t
                refine X.i2l ⟨by omega, by omega⟩ dX5_digest_88 (pc' := 89) rfl ?_
                refine X.goto (tgt := 95) dX5_digest_89 (by decide) ?_
                refine X.callV (ci := 1) (a := mN h) (rm := rm_X1_take) (As := [vl (Int64.ofInt r)]) (st := []) dX5_digest_95 ck_X5_182 rfl (by decide) hTn rfl rfl ⟨Nat.le_of_ble_eq_true rfl, Nat.le_of_ble_eq_true rfl⟩ (Nat.le_of_ble_eq_true rfl) (Nat.le_of_ble_eq_true rfl) (Nat.le_of_ble_eq_true rfl) (pc' := 98) rfl (k_X1_take (h := (sL hq2 (mN h) 0 z)) hTn) (fun q21 hq21 eq21 => ?_) (fun _ _ x1 => x1.elim)
                obtain ⟨rfl, rfl⟩ := eq21
                rw [sL_sL, mL_at]
                refine X.iinc (i := 2) (ls' := [some (rf x), some (rf (mN h)), some (vi (t + 1))]) dX5_digest_98 rfl (by decide) rfl rfl (pc' := 101) rfl ?_
                refine X.goto (tgt := 54) dX5_digest_101 (by decide) ?_
                refine ih54 ((31 * z + Int64.ofInt r)) (t + 1) (by omega) ?_
                exact ⟨by omega, by omega, by rw [itF_at ht0, ← hz, show dsl (lA L) t = r by unfold dsl; rw [if_pos (by omega), hr]]; rfl⟩
        refine L54 _ ((dgM (lA L) ((dgB (lA L) ((dgW (lA L) ((dgS (lA L) v)))))))) 0 (Nat.lt_succ_self _) ?_
        exact ⟨by omega, by omega, rfl⟩
      · refine X.aload_n (i := 1) rfl rfl dX5_digest_16 (pc' := 17) rfl ?_
        refine X.aload_n (i := 0) rfl rfl dX5_digest_17 (pc' := 18) rfl ?_
        refine X.iload_n (i := 2) rfl rfl dX5_digest_18 (pc' := 19) rfl ?_
        refine X.callV (ci := 5) (a := x) (rm := rm_X5_total) (As := [vi k]) (st := [rf (mN h)]) dX5_digest_19 ck_X5_159 rfl (by decide) hE0.1.1 rfl rfl ⟨Nat.le_of_ble_eq_true rfl, Nat.le_of_ble_eq_true rfl⟩ (Nat.le_of_ble_eq_true rfl) (Nat.le_of_ble_eq_true rfl) (Nat.le_of_ble_eq_true rfl) (pc' := 22) rfl (k_X5_total (h := (sL hq2 (mN h) 0 v)) hE0 ⟨by omega, by omega⟩ ⟨by omega, by omega⟩) (fun q22 hq22 eq22 => ?_) (fun _ _ x1 => x1.elim)
        obtain ⟨rfl, rfl⟩ := eq22
        have hdr : 0 ≤ (if k = 9 then lZ L else oAl (lA L) k) ∧ (if k = 9 then lZ L else oAl (lA L) k) ≤ 400 := dgO_rng okA hz6 (w := k) ⟨by omega, by omega⟩
        refine X.i2l ⟨by omega, by omega⟩ dX5_digest_22 (pc' := 23) rfl ?_
        refine X.callV (ci := 1) (a := mN h) (rm := rm_X1_take) (As := [vl (Int64.ofInt (dgO L k))]) (st := []) dX5_digest_23 ck_X5_182 rfl (by decide) hTn rfl rfl ⟨Nat.le_of_ble_eq_true rfl, Nat.le_of_ble_eq_true rfl⟩ (Nat.le_of_ble_eq_true rfl) (Nat.le_of_ble_eq_true rfl) (Nat.le_of_ble_eq_true rfl) (pc' := 26) rfl (k_X1_take (h := (sL hq2 (mN h) 0 v)) hTn) (fun q23 hq23 eq23 => ?_) (fun _ _ x1 => x1.elim)
        obtain ⟨rfl, rfl⟩ := eq23
        rw [sL_sL, mL_at]
        refine X.iinc (i := 2) (ls' := [some (rf x), some (rf (mN h)), some (vi (k + 1))]) dX5_digest_26 rfl (by decide) rfl rfl (pc' := 29) rfl ?_
        refine X.goto (tgt := 10) dX5_digest_29 (by decide) ?_
        refine ih10 ((31 * v + Int64.ofInt (dgO L k))) (k + 1) (by omega) ?_
        exact ⟨by omega, by omega, by rw [itF_at hk0, ← hv]; rfl⟩
  refine L10 _ 3853 0 (Nat.lt_succ_self _) ?_
  exact ⟨by omega, by omega, rfl⟩
set_option maxHeartbeats 4000000 in
set_option maxRecDepth 100000 in
theorem k_X6_share {Ω : xO} {h : xM} {m : Nat} {A : aS} (hS : MoS h m) (hM : RM h (m + 1) 0 A) (hA : aOK A) : xCt Ω yX6_share cX6_share 3 (some .double) rm_X6_share [rf m] h (fun q h' => h = h' ∧ q = some (vd (shr A))) xNo := by
  refine xCt_of (ini := false) (by decide +kernel) (Nat.le_of_ble_eq_true rfl) (fun q => absurd q (by decide)) ?_
  generalize hPR : (fun q h' => h = h' ∧ q = some (vd (shr A)) : Option xV → xM → Prop) = PR
  have K0 : X Ω RX6 cX6_share 3 (some .double) false rm_X6_share PR xNo 0 0 0 [some (rf m), none, none] [] h := ?_
  exact K0
  obtain ⟨mSt, mB, mW, mWl, mWo, mCo, mHe⟩ := id hM
  obtain ⟨okB, okN, okWl, okS, okW, okM, okC, okH⟩ := id hA
  refine X.iconst dX6_share_0 (pc' := 1) rfl ?_
  refine X.istore_n (i := 1) (ls' := [some (rf m), some (vi 0), none]) (hi := rfl) (hd := dX6_share_1) (by decide) rfl rfl (pc' := 2) rfl ?_
  refine X.iconst dX6_share_2 (pc' := 3) rfl ?_
  refine X.istore_n (i := 2) (ls' := [some (rf m), some (vi 0), some (vi 0)]) (hi := rfl) (hd := dX6_share_3) (by decide) rfl rfl (pc' := 4) rfl ?_
  have L4 : ∀ (n4 : Nat) (c : Int) (t : Int), (6 - t).toNat < n4 → (0 ≤ t ∧ t ≤ 6 ∧ c = smF (hBt A) t.toNat) → X Ω RX6 cX6_share 3 (some .double) false rm_X6_share PR xNo 0 0 4 [some (rf m), some (vi c), some (vi t)] [] h := by
    intro n4
    induction n4 with
    | zero => intro c t hm _; exfalso; omega
    | succ n4 ih4 =>
      intro c t hm4 hinv
      obtain ⟨ht0, ht6, hc⟩ := hinv
      have hsm := smF_rng (g := hBt A) (B := 400) (fun k => ⟨(hBt_rng hA k).1, by have := (hBt_rng hA k).2; omega⟩) t.toNat
      refine X.iload_n (i := 2) rfl rfl dX6_share_4 (pc' := 5) rfl ?_
      refine X.bipush (by decide +kernel) dX6_share_5 (pc' := 7) rfl ?_
      refine X.icmp_ge (tgt := 25) dX6_share_7 ⟨by omega, by omega⟩ ⟨by omega, by omega⟩ (by decide) (pc' := 10) rfl (fun c7 => ?_) (fun c7 => ?_)
      · have e : t = 6 := by omega
        subst e
        have hc6 : c = shN A := by rw [hc, ← smF_sh]; rfl
        have hsh : aB A ≠ 0 → FP.ddiv (FP.i2d (Int32.ofInt c)) (FP.i2d (Int32.ofInt (6 * aB A))) = shr A := fun z => by unfold shr; rw [if_neg z, hc6]
        have hsr := shN_rng hA
        refine X.aload_n (i := 0) rfl rfl dX6_share_25 (pc' := 26) rfl ?_
        refine X.getR fk_X6_8 xcl_6 dX6_share_26 hS.1 hS.2.1 (pc' := 29) rfl ?_
        refine X.iconst dX6_share_29 (pc' := 30) rfl ?_
        refine X.iald (x := aB A) dX6_share_30 hS.2.2.1 (by omega) (by omega) ⟨by omega, by omega⟩ (mI_at mB (by omega)) (pc' := 31) rfl (fun r1 => ?_)
        obtain ⟨r1a, r1b⟩ := r1
        refine X.if_ne (tgt := 38) dX6_share_31 ⟨by omega, by omega⟩ (by decide) (pc' := 34) rfl (fun c31 => ?_) (fun c31 => ?_)
        · refine X.iload_n (i := 1) rfl rfl dX6_share_38 (pc' := 39) rfl ?_
          refine X.i2d dX6_share_39 (pc' := 40) rfl ?_
          refine X.bipush (by decide +kernel) dX6_share_40 (pc' := 42) rfl ?_
          refine X.aload_n (i := 0) rfl rfl dX6_share_42 (pc' := 43) rfl ?_
          refine X.getR fk_X6_8 xcl_6 dX6_share_43 hS.1 hS.2.1 (pc' := 46) rfl ?_
          refine X.iconst dX6_share_46 (pc' := 47) rfl ?_
          refine X.iald (x := aB A) dX6_share_47 hS.2.2.1 (by omega) (by omega) ⟨by omega, by omega⟩ (mI_at mB (by omega)) (pc' := 48) rfl (fun r2 => ?_)
          obtain ⟨r2a, r2b⟩ := r2
          refine X.imul dX6_share_48 (pc' := 49) rfl ?_
          refine X.i2d dX6_share_49 (pc' := 50) rfl ?_
          have hsh2 := hsh (by omega)
          have hnn : vf_n64 (FP.ddiv (FP.i2d (Int32.ofInt c)) (FP.i2d (Int32.ofInt (6 * aB A)))) := by rw [hsh2]; exact (shr_ok hA).n64
          refine X.ddiv hnn dX6_share_50 (pc' := 51) rfl ?_
          refine X.dret dX6_share_51 rfl (Nat.le_of_ble_eq_true rfl) (Nat.le_of_ble_eq_true rfl) ?_
          subst hPR
          exact ⟨rfl, by rw [hsh2]⟩
        · refine X.dconst0 dX6_share_34 (pc' := 35) rfl ?_
          refine X.goto (tgt := 51) dX6_share_35 (by decide) ?_
          refine X.dret dX6_share_51 rfl (Nat.le_of_ble_eq_true rfl) (Nat.le_of_ble_eq_true rfl) ?_
          subst hPR
          exact ⟨rfl, by unfold shr; rw [if_pos (by omega)]⟩
      · refine X.iload_n (i := 1) rfl rfl dX6_share_10 (pc' := 11) rfl ?_
        refine X.aload_n (i := 0) rfl rfl dX6_share_11 (pc' := 12) rfl ?_
        refine X.iload_n (i := 2) rfl rfl dX6_share_12 (pc' := 13) rfl ?_
        refine X.iconst dX6_share_13 (pc' := 14) rfl ?_
        refine X.callV (ci := 6) (a := m) (rm := rm_X6_beatsOf) (As := [vi t, vi 0]) (st := [vi c]) dX6_share_14 ck_X6_141 rfl (by decide) hS.1 rfl rfl ⟨Nat.le_of_ble_eq_true rfl, Nat.le_of_ble_eq_true rfl⟩ (Nat.le_of_ble_eq_true rfl) (Nat.le_of_ble_eq_true rfl) (Nat.le_of_ble_eq_true rfl) (pc' := 17) rfl (k_X6_beatsOf hS hM hA ⟨by omega, by omega⟩) (fun q3 hq3 eq3 => ?_) (fun _ _ x1 => x1.elim)
        obtain ⟨rfl, y, rfl, hy⟩ := eq3
        refine X.iadd dX6_share_17 (pc' := 18) rfl ?_
        refine X.gen (fun c2 hc2 => ?_)
        refine X.istore_n (i := 1) (ls' := [some (rf m), some (vi c2), some (vi t)]) (hi := rfl) (hd := dX6_share_18) (by decide) rfl rfl (pc' := 19) rfl ?_
        refine X.iinc (i := 2) (ls' := [some (rf m), some (vi c2), some (vi (t + 1))]) dX6_share_19 rfl (by decide) rfl rfl (pc' := 22) rfl ?_
        refine X.goto (tgt := 4) dX6_share_22 (by decide) ?_
        refine ih4 c2 (t + 1) (by omega) ?_
        exact ⟨by omega, by omega, by rw [smF_at ht0, ← hc, ← hy]; omega⟩
  refine L4 _ 0 0 (Nat.lt_succ_self _) ?_
  exact ⟨by omega, by omega, rfl⟩
set_option maxHeartbeats 4000000 in
set_option maxRecDepth 100000 in
theorem k_X6_heardShare {Ω : xO} {h : xM} {m : Nat} {L : lS} (hL : ML h m L) : xCt Ω yX6_heardShare cX6_heardShare 1 (some .double) rm_X6_heardShare [rf m] h (fun q h' => FM h h' m ∧ q = some (vd (shr (lA L))) ∧ mI h' m 3 = 0 ∧ ML h' m (L)) xNo := by
  refine xCt_of (ini := false) (by decide +kernel) (Nat.le_of_ble_eq_true rfl) (fun q => absurd q (by decide)) ?_
  generalize hPR : (fun q h' => FM h h' m ∧ q = some (vd (shr (lA L))) ∧ mI h' m 3 = 0 ∧ ML h' m (L) : Option xV → xM → Prop) = PR
  have K0 : X Ω RX6 cX6_heardShare 1 (some .double) false rm_X6_heardShare PR xNo 0 0 0 [some (rf m)] [] h := ?_
  exact K0
  have hz := hL.2.2.1
  have hO := hL.2.2.2.2.2.2.2.2
  have hz6 := hO.2.2.1
  have hA : aOK (lA L) := hO.2.1.1
  have hM := hL.2.1
  obtain ⟨mSt, mB, mW, mWl, mWo, mCo, mHe⟩ := id hM
  obtain ⟨okB, okN, okWl, okS, okW, okM, okC, okH⟩ := id hA
  have hTn := hL.2.2.2.2.2.2.1
  have hTr := hO.2.2.2.2.1
  have hKf := hL.2.2.2.2.1
  have hKb := hO.2.2.2.1
  refine X.aload_n (i := 0) rfl rfl dX6_heardShare_0 (pc' := 1) rfl ?_
  refine X.iconst dX6_heardShare_1 (pc' := 2) rfl ?_
  refine X.putI fk_X6_21 xcl_6 ⟨_, rfl, Or.inl rfl⟩ dX6_heardShare_2 (Or.inl rfl) ⟨by omega, by omega⟩ hL.1.1 (pc' := 5) rfl ?_
  refine X.genH (fun h1 hh1 => ?_)
  have wh1 : ∀ (w0 : Nat) (w1 : Int), mI h1 w0 w1 = if w0 = m ∧ w1 = 3 then 0 else mI h w0 w1 := fun _ _ => by rw [hh1]; rfl
  have S2 : MoS h1 m := by rw [hh1]; exact hL.1
  have hF2 : FM h h1 m := by rw [hh1]; exact FM.rf.w ⟨by omega, by omega⟩
  have hL2 : ML h1 m L := hL.th hF2 (by rw [hh1]; funext j; rw [mI_sI, if_neg (by omega)]) (by rw [hh1]; funext j; rw [mI_sI, if_neg (by omega)]) (fun j z => by rw [hh1, mI_sI, if_neg (by omega)])
  have hT0 : mI h1 m 3 = 0 := by rw [wh1, if_pos ⟨rfl, rfl⟩]
  refine X.aload_n (i := 0) rfl rfl dX6_heardShare_5 (pc' := 6) rfl ?_
  refine X.callV (ci := 6) (a := m) (rm := rm_X6_share) (As := []) (st := []) dX6_heardShare_6 ck_X6_180 rfl (by decide) hL2.1.1 rfl rfl ⟨Nat.le_of_ble_eq_true rfl, Nat.le_of_ble_eq_true rfl⟩ (Nat.le_of_ble_eq_true rfl) (Nat.le_of_ble_eq_true rfl) (Nat.le_of_ble_eq_true rfl) (pc' := 9) rfl (k_X6_share hL2.1 hL2.2.1 hA) (fun q3 hq3 eq3 => ?_) (fun _ _ x1 => x1.elim)
  obtain ⟨rfl, rfl⟩ := eq3
  refine X.dret dX6_heardShare_9 rfl (Nat.le_of_ble_eq_true rfl) (Nat.le_of_ble_eq_true rfl) ?_
  subst hPR
  exact ⟨hF2, rfl, hT0, hL2⟩
set_option maxHeartbeats 4000000 in
set_option maxRecDepth 100000 in
theorem k_X6_digest {Ω : xO} {h : xM} {m : Nat} {L : lS} (hL : ML h m L) : xCt Ω yX6_digest cX6_digest 7 (some .long) rm_X6_digest [rf m] h (fun q h' => FM h h' m ∧ q = some (vl (dig L)) ∧ mI h' m 3 = 0 ∧ ML h' m (L)) xNo := by
  refine xCt_of (ini := false) (by decide +kernel) (Nat.le_of_ble_eq_true rfl) (fun q => absurd q (by decide)) ?_
  generalize hPR : (fun q h' => FM h h' m ∧ q = some (vl (dig L)) ∧ mI h' m 3 = 0 ∧ ML h' m (L) : Option xV → xM → Prop) = PR
  have K0 : X Ω RX6 cX6_digest 7 (some .long) false rm_X6_digest PR xNo 0 0 0 [some (rf m), none, none, none, none, none, none] [] h := ?_
  exact K0
  have hz := hL.2.2.1
  have hO := hL.2.2.2.2.2.2.2.2
  have hz6 := hO.2.2.1
  have hA : aOK (lA L) := hO.2.1.1
  have hM := hL.2.1
  obtain ⟨mSt, mB, mW, mWl, mWo, mCo, mHe⟩ := id hM
  obtain ⟨okB, okN, okWl, okS, okW, okM, okC, okH⟩ := id hA
  have hTn := hL.2.2.2.2.2.2.1
  have hTr := hO.2.2.2.2.1
  have hKf := hL.2.2.2.2.1
  have hKb := hO.2.2.2.1
  refine X.aload_n (i := 0) rfl rfl dX6_digest_0 (pc' := 1) rfl ?_
  refine X.iconst dX6_digest_1 (pc' := 2) rfl ?_
  refine X.putI fk_X6_21 xcl_6 ⟨_, rfl, Or.inl rfl⟩ dX6_digest_2 (Or.inl rfl) ⟨by omega, by omega⟩ hL.1.1 (pc' := 5) rfl ?_
  refine X.genH (fun h1 hh1 => ?_)
  have wh1 : ∀ (w0 : Nat) (w1 : Int), mI h1 w0 w1 = if w0 = m ∧ w1 = 3 then 0 else mI h w0 w1 := fun _ _ => by rw [hh1]; rfl
  have S2 : MoS h1 m := by rw [hh1]; exact hL.1
  have hF2 : FM h h1 m := by rw [hh1]; exact FM.rf.w ⟨by omega, by omega⟩
  have hL2 : ML h1 m L := hL.th hF2 (by rw [hh1]; funext j; rw [mI_sI, if_neg (by omega)]) (by rw [hh1]; funext j; rw [mI_sI, if_neg (by omega)]) (fun j z => by rw [hh1, mI_sI, if_neg (by omega)])
  have hT0 : mI h1 m 3 = 0 := by rw [wh1, if_pos ⟨rfl, rfl⟩]
  refine X.ldc2 (v := 3853) wd_1011 dX6_digest_5 (pc' := 8) rfl ?_
  refine X.lstore_n (i := 1) (ls' := [some (rf m), some (vl 3853), none, none, none, none, none]) (hi := rfl) (hd := dX6_digest_8) (by decide) rfl rfl (pc' := 9) rfl ?_
  refine X.iconst dX6_digest_9 (pc' := 10) rfl ?_
  refine X.istore_n (i := 3) (ls' := [some (rf m), some (vl 3853), none, some (vi 0), none, none, none]) (hi := rfl) (hd := dX6_digest_10) (by decide) rfl rfl (pc' := 11) rfl ?_
  have L11 : ∀ (n11 : Nat) (v1 : Int64) (k : Int), (10 - k).toNat < n11 → (0 ≤ k ∧ k ≤ 10 ∧ v1 = itF (fun k => tkV (dgO L k)) 3853 k.toNat) → X Ω RX6 cX6_digest 7 (some .long) false rm_X6_digest PR xNo 0 0 11 [some (rf m), some (vl v1), none, some (vi k), none, none, none] [] h1 := by
    intro n11
    induction n11 with
    | zero => intro v1 k hm _; exfalso; omega
    | succ n11 ih11 =>
      intro v1 k hm11 hinv
      obtain ⟨hk0, hk9, hv1⟩ := hinv
      refine X.iload_n (i := 3) rfl rfl dX6_digest_11 (pc' := 12) rfl ?_
      refine X.bipush (by decide +kernel) dX6_digest_12 (pc' := 14) rfl ?_
      refine X.icmp_ge (tgt := 36) dX6_digest_14 ⟨by omega, by omega⟩ ⟨by omega, by omega⟩ (by decide) (pc' := 17) rfl (fun c14 => ?_) (fun c14 => ?_)
      · refine X.iconst dX6_digest_36 (pc' := 37) rfl ?_
        refine X.istore_n (i := 3) (ls' := [some (rf m), some (vl v1), none, some (vi 0), none, none, none]) (hi := rfl) (hd := dX6_digest_37) (by decide) rfl rfl (pc' := 38) rfl ?_
        have L38 : ∀ (n38 : Nat) (v2 : Int64) (s : Int), (6 - s).toNat < n38 → (0 ≤ s ∧ s ≤ 6 ∧ v2 = itF (dsS (lA L)) v1 s.toNat) → X Ω RX6 cX6_digest 7 (some .long) false rm_X6_digest PR xNo 0 0 38 [some (rf m), some (vl v2), none, some (vi s), none, none, none] [] h1 := by
          intro n38
          induction n38 with
          | zero => intro v2 s hm _; exfalso; omega
          | succ n38 ih38 =>
            intro v2 s hm38 hinv
            obtain ⟨hs0, hs6, hv2⟩ := hinv
            refine X.iload_n (i := 3) rfl rfl dX6_digest_38 (pc' := 39) rfl ?_
            refine X.bipush (by decide +kernel) dX6_digest_39 (pc' := 41) rfl ?_
            refine X.icmp_ge (tgt := 100) dX6_digest_41 ⟨by omega, by omega⟩ ⟨by omega, by omega⟩ (by decide) (pc' := 44) rfl (fun c41 => ?_) (fun c41 => ?_)
            · refine X.aload_n (i := 0) rfl rfl dX6_digest_100 (pc' := 101) rfl ?_
              refine X.getR fk_X6_8 xcl_6 dX6_digest_101 hL2.1.1 hL2.1.2.1 (pc' := 104) rfl ?_
              refine X.iconst dX6_digest_104 (pc' := 105) rfl ?_
              refine X.iald (x := aW (lA L)) dX6_digest_105 hL2.1.2.2.1 (by omega) (by omega) ⟨by omega, by omega⟩ (mI_at hL2.2.1.2.2.1 (by omega)) (pc' := 106) rfl (fun r3 => ?_)
              obtain ⟨r3a, r3b⟩ := r3
              refine X.iconst dX6_digest_106 (pc' := 107) rfl ?_
              refine X.isub dX6_digest_107 (pc' := 108) rfl ?_
              refine X.gen (fun n0 hn0 => ?_)
              refine X.istore_n (i := 3) (ls' := [some (rf m), some (vl v2), none, some (vi n0), none, none, none]) (hi := rfl) (hd := dX6_digest_108) (by decide) rfl rfl (pc' := 109) rfl ?_
              have L109 : ∀ (n109 : Nat) (v3 : Int64) (n : Int), (n + 1).toNat < n109 → (-1 ≤ n ∧ aW (lA L) - 13 ≤ n ∧ n ≤ aW (lA L) - 1 ∧ v3 = itF (fun i => dwW (lA L) (aW (lA L) - 1 - i)) v2 (aW (lA L) - 1 - n).toNat) → X Ω RX6 cX6_digest 7 (some .long) false rm_X6_digest PR xNo 0 0 109 [some (rf m), some (vl v3), none, some (vi n), none, none, none] [] h1 := by
                intro n109
                induction n109 with
                | zero => intro v3 n hm _; exfalso; omega
                | succ n109 ih109 =>
                  intro v3 n hm109 hinv
                  obtain ⟨hn0, hn12, hn1, hv3⟩ := hinv
                  refine X.iload_n (i := 3) rfl rfl dX6_digest_109 (pc' := 110) rfl ?_
                  refine X.if_lt (tgt := 209) dX6_digest_110 ⟨by omega, by omega⟩ (by decide) (pc' := 113) rfl (fun c110 => ?_) (fun c110 => ?_)
                  · refine X.aload_n (i := 0) rfl rfl dX6_digest_209 (pc' := 210) rfl ?_
                    refine X.getR fk_X6_8 xcl_6 dX6_digest_210 hL2.1.1 hL2.1.2.1 (pc' := 213) rfl ?_
                    refine X.iconst dX6_digest_213 (pc' := 214) rfl ?_
                    refine X.iald (x := aB (lA L)) dX6_digest_214 hL2.1.2.2.1 (by omega) (by omega) ⟨by omega, by omega⟩ (mI_at hL2.2.1.2.1 (by omega)) (pc' := 215) rfl (fun r4 => ?_)
                    obtain ⟨r4a, r4b⟩ := r4
                    refine X.iconst dX6_digest_215 (pc' := 216) rfl ?_
                    refine X.isub dX6_digest_216 (pc' := 217) rfl ?_
                    refine X.gen (fun b0 hb0 => ?_)
                    refine X.istore_n (i := 3) (ls' := [some (rf m), some (vl v3), none, some (vi b0), none, none, none]) (hi := rfl) (hd := dX6_digest_217) (by decide) rfl rfl (pc' := 218) rfl ?_
                    have L218 : ∀ (n218 : Nat) (v4 : Int64) (bt : Int), (bt + 1).toNat < n218 → (-1 ≤ bt ∧ aB (lA L) - 9 ≤ bt ∧ bt ≤ aB (lA L) - 1 ∧ v4 = itF (fun i => dbB (lA L) (aB (lA L) - 1 - i)) v3 (aB (lA L) - 1 - bt).toNat) → X Ω RX6 cX6_digest 7 (some .long) false rm_X6_digest PR xNo 0 0 218 [some (rf m), some (vl v4), none, some (vi bt), none, none, none] [] h1 := by
                      intro n218
                      induction n218 with
                      | zero => intro v4 bt hm _; exfalso; omega
                      | succ n218 ih218 =>
                        intro v4 bt hm218 hinv
                        obtain ⟨hb0, hb8, hb1, hv4⟩ := hinv
                        refine X.iload_n (i := 3) rfl rfl dX6_digest_218 (pc' := 219) rfl ?_
                        refine X.if_lt (tgt := 289) dX6_digest_219 ⟨by omega, by omega⟩ (by decide) (pc' := 222) rfl (fun c219 => ?_) (fun c219 => ?_)
                        · refine X.iconst dX6_digest_289 (pc' := 290) rfl ?_
                          refine X.istore_n (i := 3) (ls' := [some (rf m), some (vl v4), none, some (vi 0), none, none, none]) (hi := rfl) (hd := dX6_digest_290) (by decide) rfl rfl (pc' := 291) rfl ?_
                          have L291 : ∀ (n291 : Nat) (v5 : Int64) (f : Int), (6 - f).toNat < n291 → (0 ≤ f ∧ f ≤ 6 ∧ v5 = itF (dmM (lA L)) v4 f.toNat) → X Ω RX6 cX6_digest 7 (some .long) false rm_X6_digest PR xNo 0 0 291 [some (rf m), some (vl v5), none, some (vi f), none, none, none] [] h1 := by
                            intro n291
                            induction n291 with
                            | zero => intro v5 f hm _; exfalso; omega
                            | succ n291 ih291 =>
                              intro v5 f hm291 hinv
                              obtain ⟨hf0, hf6, hv5⟩ := hinv
                              refine X.iload_n (i := 3) rfl rfl dX6_digest_291 (pc' := 292) rfl ?_
                              refine X.bipush (by decide +kernel) dX6_digest_292 (pc' := 294) rfl ?_
                              refine X.icmp_ge (tgt := 362) dX6_digest_294 ⟨by omega, by omega⟩ ⟨by omega, by omega⟩ (by decide) (pc' := 297) rfl (fun c294 => ?_) (fun c294 => ?_)
                              · refine X.iconst dX6_digest_362 (pc' := 363) rfl ?_
                                refine X.istore_n (i := 3) (ls' := [some (rf m), some (vl v5), none, some (vi 0), none, none, none]) (hi := rfl) (hd := dX6_digest_363) (by decide) rfl rfl (pc' := 364) rfl ?_
                                have L364 : ∀ (n364 : Nat) (v6 : Int64) (t : Int), (6 - t).toNat < n364 → (0 ≤ t ∧ t ≤ 6 ∧ v6 = itF (fun s => tkV (dsl (lA L) s)) v5 t.toNat) → X Ω RX6 cX6_digest 7 (some .long) false rm_X6_digest PR xNo 0 0 364 [some (rf m), some (vl v6), none, some (vi t), none, none, none] [] h1 := by
                                  intro n364
                                  induction n364 with
                                  | zero => intro v6 t hm _; exfalso; omega
                                  | succ n364 ih364 =>
                                    intro v6 t hm364 hinv
                                    obtain ⟨ht0, ht6, hv6⟩ := hinv
                                    refine X.iload_n (i := 3) rfl rfl dX6_digest_364 (pc' := 365) rfl ?_
                                    refine X.bipush (by decide +kernel) dX6_digest_365 (pc' := 367) rfl ?_
                                    refine X.icmp_ge (tgt := 397) dX6_digest_367 ⟨by omega, by omega⟩ ⟨by omega, by omega⟩ (by decide) (pc' := 370) rfl (fun c367 => ?_) (fun c367 => ?_)
                                    · refine X.ldc2 (v := 31) wd_1012 dX6_digest_397 (pc' := 400) rfl ?_
                                      refine X.lload_n (i := 1) rfl rfl dX6_digest_400 (pc' := 401) rfl ?_
                                      refine X.lmul dX6_digest_401 (pc' := 402) rfl ?_
                                      refine X.aload_n (i := 0) rfl rfl dX6_digest_402 (pc' := 403) rfl ?_
                                      refine X.callV (ci := 6) (a := m) (rm := rm_X6_best) (As := []) (st := [vl (31 * v6)]) dX6_digest_403 ck_X6_176 rfl (by decide) hL2.1.1 rfl rfl ⟨Nat.le_of_ble_eq_true rfl, Nat.le_of_ble_eq_true rfl⟩ (Nat.le_of_ble_eq_true rfl) (Nat.le_of_ble_eq_true rfl) (Nat.le_of_ble_eq_true rfl) (pc' := 406) rfl (k_X6_best hL2.1 hL2.2.1 hA) (fun q5 hq5 eq5 => ?_) (fun _ _ x1 => x1.elim)
                                      obtain ⟨rfl, bs, rfl, hbs⟩ := eq5
                                      have hbr := bst_rng hA
                                      refine X.i2l ⟨by omega, by omega⟩ dX6_digest_406 (pc' := 407) rfl ?_
                                      refine X.ladd dX6_digest_407 (pc' := 408) rfl ?_
                                      refine X.lstore_n (i := 1) (ls' := [some (rf m), some (vl ((31 * v6) + (Int64.ofInt bs))), none, some (vi t), none, none, none]) (hi := rfl) (hd := dX6_digest_408) (by decide) rfl rfl (pc' := 409) rfl ?_
                                      refine X.ldc2 (v := 31) wd_1012 dX6_digest_409 (pc' := 412) rfl ?_
                                      refine X.lload_n (i := 1) rfl rfl dX6_digest_412 (pc' := 413) rfl ?_
                                      refine X.lmul dX6_digest_413 (pc' := 414) rfl ?_
                                      refine X.aload_n (i := 0) rfl rfl dX6_digest_414 (pc' := 415) rfl ?_
                                      refine X.callV (ci := 6) (a := m) (rm := rm_X6_share) (As := []) (st := [vl (31 * ((31 * v6) + (Int64.ofInt bs)))]) dX6_digest_415 ck_X6_180 rfl (by decide) hL2.1.1 rfl rfl ⟨Nat.le_of_ble_eq_true rfl, Nat.le_of_ble_eq_true rfl⟩ (Nat.le_of_ble_eq_true rfl) (Nat.le_of_ble_eq_true rfl) (Nat.le_of_ble_eq_true rfl) (pc' := 418) rfl (k_X6_share hL2.1 hL2.2.1 hA) (fun q6 hq6 eq6 => ?_) (fun _ _ x1 => x1.elim)
                                      obtain ⟨rfl, rfl⟩ := eq6
                                      refine X.callS (rm := rm_D2) (As := [vd (shr (lA L))]) (st := [vl (31 * ((31 * v6) + (Int64.ofInt bs)))]) dX6_digest_418 ckD_2 rfl rfl ⟨Nat.le_of_ble_eq_true rfl, Nat.le_of_ble_eq_true rfl⟩ (Nat.le_of_ble_eq_true rfl) (Nat.le_of_ble_eq_true rfl) (Nat.le_of_ble_eq_true rfl) (pc' := 421) rfl (k_D2 (shr_ok hA)) (fun q7 hq7 eq7 => ?_) (fun _ _ x1 => x1.elim)
                                      obtain ⟨rfl, rfl⟩ := eq7
                                      refine X.ladd dX6_digest_421 (pc' := 422) rfl ?_
                                      refine X.lstore_n (i := 1) (ls' := [some (rf m), some (vl ((31 * ((31 * v6) + (Int64.ofInt bs))) + ((shr (lA L)).toInt64))), none, some (vi t), none, none, none]) (hi := rfl) (hd := dX6_digest_422) (by decide) rfl rfl (pc' := 423) rfl ?_
                                      refine X.ldc2 (v := 31) wd_1012 dX6_digest_423 (pc' := 426) rfl ?_
                                      refine X.lload_n (i := 1) rfl rfl dX6_digest_426 (pc' := 427) rfl ?_
                                      refine X.lmul dX6_digest_427 (pc' := 428) rfl ?_
                                      refine X.aload_n (i := 0) rfl rfl dX6_digest_428 (pc' := 429) rfl ?_
                                      have hTn2 : mI h1 m 5 = lTn L := hL2.2.2.2.2.2.2.1
                                      refine X.getI (x := mI h1 m 5) fk_X6_75 xcl_6 dX6_digest_429 (by decide) hL2.1.1 rfl (pc' := 432) rfl (fun r8 => ?_)
                                      obtain ⟨r8a, r8b⟩ := r8
                                      refine X.i2l ⟨by omega, by omega⟩ dX6_digest_432 (pc' := 433) rfl ?_
                                      refine X.ladd dX6_digest_433 (pc' := 434) rfl ?_
                                      refine X.lstore_n (i := 1) (ls' := [some (rf m), some (vl ((31 * ((31 * ((31 * v6) + (Int64.ofInt bs))) + ((shr (lA L)).toInt64))) + (Int64.ofInt (mI h1 m 5)))), none, some (vi t), none, none, none]) (hi := rfl) (hd := dX6_digest_434) (by decide) rfl rfl (pc' := 435) rfl ?_
                                      refine X.iconst dX6_digest_435 (pc' := 436) rfl ?_
                                      refine X.istore_n (i := 3) (ls' := [some (rf m), some (vl ((31 * ((31 * ((31 * v6) + (Int64.ofInt bs))) + ((shr (lA L)).toInt64))) + (Int64.ofInt (mI h1 m 5)))), none, some (vi 0), none, none, none]) (hi := rfl) (hd := dX6_digest_436) (by decide) rfl rfl (pc' := 437) rfl ?_
                                      have L437 : ∀ (n437 : Nat) (v7 : Int64) (k9 : Int), (lTn L - k9).toNat < n437 → (0 ≤ k9 ∧ k9 ≤ lTn L ∧ v7 = itF (fun k => tkV (lTg L k)) (tkV (lTn L) (31 * tkV (bst (lA L)) v6 + (shr (lA L)).toInt64)) k9.toNat) → X Ω RX6 cX6_digest 7 (some .long) false rm_X6_digest PR xNo 0 0 437 [some (rf m), some (vl v7), none, some (vi k9), none, none, none] [] h1 := by
                                        intro n437
                                        induction n437 with
                                        | zero => intro v7 k9 hm _; exfalso; omega
                                        | succ n437 ih437 =>
                                          intro v7 k9 hm437 hinv
                                          obtain ⟨hq0, hq9, hv7⟩ := hinv
                                          refine X.iload_n (i := 3) rfl rfl dX6_digest_437 (pc' := 438) rfl ?_
                                          refine X.aload_n (i := 0) rfl rfl dX6_digest_438 (pc' := 439) rfl ?_
                                          refine X.getI (x := mI h1 m 5) fk_X6_75 xcl_6 dX6_digest_439 (by decide) hL2.1.1 rfl (pc' := 442) rfl (fun r9 => ?_)
                                          obtain ⟨r9a, r9b⟩ := r9
                                          refine X.icmp_ge (tgt := 465) dX6_digest_442 ⟨by omega, by omega⟩ ⟨by omega, by omega⟩ (by decide) (pc' := 445) rfl (fun c442 => ?_) (fun c442 => ?_)
                                          · refine X.lload_n (i := 1) rfl rfl dX6_digest_465 (pc' := 466) rfl ?_
                                            refine X.lret dX6_digest_466 rfl (Nat.le_of_ble_eq_true rfl) (Nat.le_of_ble_eq_true rfl) ?_
                                            subst hPR
                                            have e1 : v1 = dgA L 3853 := by rw [hv1, show k = 10 by omega]; rfl
                                            have e2 : v2 = dgS (lA L) v1 := by rw [hv2, show s = 6 by omega]; rfl
                                            have e3 : v3 = dgW (lA L) v2 := by
                                              rw [hv3, show (aW (lA L) - 1 - n).toNat = (lstN (aW (lA L)) 12).toNat by unfold lstN; split <;> omega]
                                              rfl
                                            have e4 : v4 = dgB (lA L) v3 := by
                                              rw [hv4, show (aB (lA L) - 1 - bt).toNat = (lstN (aB (lA L)) 8).toNat by unfold lstN; split <;> omega]
                                              rfl
                                            have e5 : v5 = dgM (lA L) v4 := by rw [hv5, show f = 6 by omega]; rfl
                                            have e6 : v6 = dgL (lA L) v5 := by rw [hv6, show t = 6 by omega]; rfl
                                            refine ⟨hF2, ?_, hT0, hL2⟩
                                            rw [hv7, show k9 = lTn L by omega, e6, e5, e4, e3, e2, e1]
                                            rfl
                                          · refine X.ldc2 (v := 31) wd_1012 dX6_digest_445 (pc' := 448) rfl ?_
                                            refine X.lload_n (i := 1) rfl rfl dX6_digest_448 (pc' := 449) rfl ?_
                                            refine X.lmul dX6_digest_449 (pc' := 450) rfl ?_
                                            refine X.aload_n (i := 0) rfl rfl dX6_digest_450 (pc' := 451) rfl ?_
                                            refine X.getR fk_X6_14 xcl_6 dX6_digest_451 hL2.1.1 hL2.1.2.2.2.1 (pc' := 454) rfl ?_
                                            refine X.iload_n (i := 3) rfl rfl dX6_digest_454 (pc' := 455) rfl ?_
                                            refine X.cald (x := lTg L k9) dX6_digest_455 hL2.1.2.2.2.2.1 (by omega) (by omega) ⟨by omega, by omega⟩ (mI_at (hL2.2.2.2.2.2.2.2.1 k9 (by omega) (by omega)) (by omega)) (pc' := 456) rfl (fun r10 => ?_)
                                            obtain ⟨r10a, r10b⟩ := r10
                                            have r10c := (hO.2.2.2.2.2 k9 (by omega) (by omega))
                                            refine X.i2l ⟨by omega, by omega⟩ dX6_digest_456 (pc' := 457) rfl ?_
                                            refine X.ladd dX6_digest_457 (pc' := 458) rfl ?_
                                            refine X.lstore_n (i := 1) (ls' := [some (rf m), some (vl ((31 * v7) + (Int64.ofInt (lTg L k9)))), none, some (vi k9), none, none, none]) (hi := rfl) (hd := dX6_digest_458) (by decide) rfl rfl (pc' := 459) rfl ?_
                                            refine X.iinc (i := 3) (ls' := [some (rf m), some (vl ((31 * v7) + (Int64.ofInt (lTg L k9)))), none, some (vi (k9 + 1)), none, none, none]) dX6_digest_459 rfl (by decide) rfl rfl (pc' := 462) rfl ?_
                                            refine X.goto (tgt := 437) dX6_digest_462 (by decide) ?_
                                            refine ih437 ((31 * v7) + (Int64.ofInt (lTg L k9))) (k9 + 1) (by omega) ?_
                                            exact ⟨by omega, by omega, by rw [itF_at hq0, ← hv7]; rfl⟩
                                      refine L437 _ ((31 * ((31 * ((31 * v6) + (Int64.ofInt bs))) + ((shr (lA L)).toInt64))) + (Int64.ofInt (mI h1 m 5))) 0 (Nat.lt_succ_self _) ?_
                                      exact ⟨by omega, by omega, by rw [hbs, hTn2]; rfl⟩
                                    · refine X.ldc2 (v := 31) wd_1012 dX6_digest_370 (pc' := 373) rfl ?_
                                      refine X.lload_n (i := 1) rfl rfl dX6_digest_373 (pc' := 374) rfl ?_
                                      refine X.lmul dX6_digest_374 (pc' := 375) rfl ?_
                                      refine X.aload_n (i := 0) rfl rfl dX6_digest_375 (pc' := 376) rfl ?_
                                      refine X.aload_n (i := 0) rfl rfl dX6_digest_376 (pc' := 377) rfl ?_
                                      refine X.getR fk_X6_8 xcl_6 dX6_digest_377 hL2.1.1 hL2.1.2.1 (pc' := 380) rfl ?_
                                      refine X.iconst dX6_digest_380 (pc' := 381) rfl ?_
                                      refine X.iald (x := aW (lA L)) dX6_digest_381 hL2.1.2.2.1 (by omega) (by omega) ⟨by omega, by omega⟩ (mI_at hL2.2.1.2.2.1 (by omega)) (pc' := 382) rfl (fun r11 => ?_)
                                      obtain ⟨r11a, r11b⟩ := r11
                                      refine X.iconst dX6_digest_382 (pc' := 383) rfl ?_
                                      refine X.isub dX6_digest_383 (pc' := 384) rfl ?_
                                      refine X.iload_n (i := 3) rfl rfl dX6_digest_384 (pc' := 385) rfl ?_
                                      refine X.callV (ci := 6) (a := m) (rm := rm_X6_silentBeats) (As := [vi ((aW (lA L)) - 1), vi t]) (st := [vl (31 * v6)]) dX6_digest_385 ck_X6_173 rfl (by decide) hL2.1.1 rfl rfl ⟨Nat.le_of_ble_eq_true rfl, Nat.le_of_ble_eq_true rfl⟩ (Nat.le_of_ble_eq_true rfl) (Nat.le_of_ble_eq_true rfl) (Nat.le_of_ble_eq_true rfl) (pc' := 388) rfl (k_X6_silentBeats hL2.1 hL2.2.1 hA ⟨by omega, by omega⟩ ⟨by omega, by omega⟩) (fun q12 hq12 eq12 => ?_) (fun _ _ x1 => x1.elim)
                                      obtain ⟨rfl, r, rfl, hr⟩ := eq12
                                      have hr9 : r = dsl (lA L) t := by
                                        rw [hr]
                                        unfold dsl
                                        split <;> split <;> first | rfl | omega
                                      have hrr : -1 ≤ dsl (lA L) t ∧ dsl (lA L) t ≤ 60 := by
                                        have := sil_rng (lA L) (aW (lA L) - 1) t
                                        unfold dsl
                                        split <;> omega
                                      refine X.i2l ⟨by omega, by omega⟩ dX6_digest_388 (pc' := 389) rfl ?_
                                      refine X.ladd dX6_digest_389 (pc' := 390) rfl ?_
                                      refine X.lstore_n (i := 1) (ls' := [some (rf m), some (vl ((31 * v6) + (Int64.ofInt r))), none, some (vi t), none, none, none]) (hi := rfl) (hd := dX6_digest_390) (by decide) rfl rfl (pc' := 391) rfl ?_
                                      refine X.iinc (i := 3) (ls' := [some (rf m), some (vl ((31 * v6) + (Int64.ofInt r))), none, some (vi (t + 1)), none, none, none]) dX6_digest_391 rfl (by decide) rfl rfl (pc' := 394) rfl ?_
                                      refine X.goto (tgt := 364) dX6_digest_394 (by decide) ?_
                                      refine ih364 ((31 * v6) + (Int64.ofInt r)) (t + 1) (by omega) ?_
                                      exact ⟨by omega, by omega, by rw [itF_at ht0, ← hv6, hr9]; rfl⟩
                                refine L364 _ v5 0 (Nat.lt_succ_self _) ?_
                                exact ⟨by omega, by omega, rfl⟩
                              · refine X.iconst dX6_digest_297 (pc' := 298) rfl ?_
                                refine X.istore (i := 4) (ls' := [some (rf m), some (vl v5), none, some (vi f), some (vi 0), none, none]) (hd := dX6_digest_298) (by decide) rfl rfl (pc' := 300) rfl ?_
                                have L300 : ∀ (n300 : Nat) (z5 : Int64) (u : Int), (10 - u).toNat < n300 → (0 ≤ u ∧ u ≤ 10 ∧ z5 = itF (dmF (lA L) f) v5 u.toNat) → X Ω RX6 cX6_digest 7 (some .long) false rm_X6_digest PR xNo 0 0 300 [some (rf m), some (vl z5), none, some (vi f), some (vi u), none, none] [] h1 := by
                                  intro n300
                                  induction n300 with
                                  | zero => intro z5 u hm _; exfalso; omega
                                  | succ n300 ih300 =>
                                    intro z5 u hm300 hinv
                                    obtain ⟨hu0, hu9, hz5⟩ := hinv
                                    refine X.iload (i := 4) rfl dX6_digest_300 (pc' := 302) rfl ?_
                                    refine X.bipush (by decide +kernel) dX6_digest_302 (pc' := 304) rfl ?_
                                    refine X.icmp_ge (tgt := 356) dX6_digest_304 ⟨by omega, by omega⟩ ⟨by omega, by omega⟩ (by decide) (pc' := 307) rfl (fun c304 => ?_) (fun c304 => ?_)
                                    · refine X.iinc (i := 3) (ls' := [some (rf m), some (vl z5), none, some (vi (f + 1)), some (vi u), none, none]) dX6_digest_356 rfl (by decide) rfl rfl (pc' := 359) rfl ?_
                                      refine X.goto (tgt := 291) dX6_digest_359 (by decide) ?_
                                      refine X.mask (bs := [true, true, false, true, false, false, false]) (ls' := [some (rf m), some (vl z5), none, some (vi (f + 1)), none, none, none]) rfl ?_
                                      refine ih291 z5 (f + 1) (by omega) ?_
                                      exact ⟨by omega, by omega, by rw [itF_at hf0, ← hv5, hz5, show u = 10 by omega]; rfl⟩
                                    · refine X.iconst dX6_digest_307 (pc' := 308) rfl ?_
                                      refine X.istore (i := 5) (ls' := [some (rf m), some (vl z5), none, some (vi f), some (vi u), some (vi 0), none]) (hd := dX6_digest_308) (by decide) rfl rfl (pc' := 310) rfl ?_
                                      refine X.iconst dX6_digest_310 (pc' := 311) rfl ?_
                                      refine X.istore (i := 6) (ls' := [some (rf m), some (vl z5), none, some (vi f), some (vi u), some (vi 0), some (vi 0)]) (hd := dX6_digest_311) (by decide) rfl rfl (pc' := 313) rfl ?_
                                      have L313 : ∀ (n313 : Nat) (c : Int) (t : Int), (6 - t).toNat < n313 → (0 ≤ t ∧ t ≤ 6 ∧ c = smF (how (lA L) f u) t.toNat) → X Ω RX6 cX6_digest 7 (some .long) false rm_X6_digest PR xNo 0 0 313 [some (rf m), some (vl z5), none, some (vi f), some (vi u), some (vi c), some (vi t)] [] h1 := by
                                        intro n313
                                        induction n313 with
                                        | zero => intro c t hm _; exfalso; omega
                                        | succ n313 ih313 =>
                                          intro c t hm313 hinv
                                          obtain ⟨ht0, ht6, hc⟩ := hinv
                                          have hsm := smF_how (lA L) f u t.toNat
                                          refine X.iload (i := 6) rfl dX6_digest_313 (pc' := 315) rfl ?_
                                          refine X.bipush (by decide +kernel) dX6_digest_315 (pc' := 317) rfl ?_
                                          refine X.icmp_ge (tgt := 340) dX6_digest_317 ⟨by omega, by omega⟩ ⟨by omega, by omega⟩ (by decide) (pc' := 320) rfl (fun c317 => ?_) (fun c317 => ?_)
                                          · refine X.ldc2 (v := 31) wd_1012 dX6_digest_340 (pc' := 343) rfl ?_
                                            refine X.lload_n (i := 1) rfl rfl dX6_digest_343 (pc' := 344) rfl ?_
                                            refine X.lmul dX6_digest_344 (pc' := 345) rfl ?_
                                            refine X.iload (i := 5) rfl dX6_digest_345 (pc' := 347) rfl ?_
                                            refine X.i2l ⟨by omega, by omega⟩ dX6_digest_347 (pc' := 348) rfl ?_
                                            refine X.ladd dX6_digest_348 (pc' := 349) rfl ?_
                                            refine X.lstore_n (i := 1) (ls' := [some (rf m), some (vl ((31 * z5) + (Int64.ofInt c))), none, some (vi f), some (vi u), some (vi c), some (vi t)]) (hi := rfl) (hd := dX6_digest_349) (by decide) rfl rfl (pc' := 350) rfl ?_
                                            refine X.iinc (i := 4) (ls' := [some (rf m), some (vl ((31 * z5) + (Int64.ofInt c))), none, some (vi f), some (vi (u + 1)), some (vi c), some (vi t)]) dX6_digest_350 rfl (by decide) rfl rfl (pc' := 353) rfl ?_
                                            refine X.goto (tgt := 300) dX6_digest_353 (by decide) ?_
                                            refine X.mask (bs := [true, true, false, true, true, false, false]) (ls' := [some (rf m), some (vl ((31 * z5) + (Int64.ofInt c))), none, some (vi f), some (vi (u + 1)), none, none]) rfl ?_
                                            refine ih300 ((31 * z5) + (Int64.ofInt c)) (u + 1) (by omega) ?_
                                            exact ⟨by omega, by omega, by rw [itF_at hu0, ← hz5, hc, show t = 6 by omega]; rfl⟩
                                          · refine X.iload (i := 5) rfl dX6_digest_320 (pc' := 322) rfl ?_
                                            refine X.aload_n (i := 0) rfl rfl dX6_digest_322 (pc' := 323) rfl ?_
                                            refine X.iload_n (i := 3) rfl rfl dX6_digest_323 (pc' := 324) rfl ?_
                                            refine X.iload (i := 4) rfl dX6_digest_324 (pc' := 326) rfl ?_
                                            refine X.iload (i := 6) rfl dX6_digest_326 (pc' := 328) rfl ?_
                                            refine X.callV (ci := 6) (a := m) (rm := rm_X6_how) (As := [vi f, vi u, vi t]) (st := [vi c]) dX6_digest_328 ck_X6_157 rfl (by decide) hL2.1.1 rfl rfl ⟨Nat.le_of_ble_eq_true rfl, Nat.le_of_ble_eq_true rfl⟩ (Nat.le_of_ble_eq_true rfl) (Nat.le_of_ble_eq_true rfl) (Nat.le_of_ble_eq_true rfl) (pc' := 331) rfl (k_X6_how hL2.1 hL2.2.1 hA ⟨by omega, by omega⟩ ⟨by omega, by omega⟩ ⟨by omega, by omega⟩) (fun q13 hq13 eq13 => ?_) (fun _ _ x1 => x1.elim)
                                            obtain ⟨rfl, y, rfl, hy⟩ := eq13
                                            have hyr := how_rng (lA L) f u t
                                            refine X.iadd dX6_digest_331 (pc' := 332) rfl ?_
                                            refine X.gen (fun c2 hc2 => ?_)
                                            refine X.istore (i := 5) (ls' := [some (rf m), some (vl z5), none, some (vi f), some (vi u), some (vi c2), some (vi t)]) (hd := dX6_digest_332) (by decide) rfl rfl (pc' := 334) rfl ?_
                                            refine X.iinc (i := 6) (ls' := [some (rf m), some (vl z5), none, some (vi f), some (vi u), some (vi c2), some (vi (t + 1))]) dX6_digest_334 rfl (by decide) rfl rfl (pc' := 337) rfl ?_
                                            refine X.goto (tgt := 313) dX6_digest_337 (by decide) ?_
                                            refine ih313 c2 (t + 1) (by omega) ?_
                                            exact ⟨by omega, by omega, by rw [smF_at ht0, ← hc, ← hy]; omega⟩
                                      refine L313 _ 0 0 (Nat.lt_succ_self _) ?_
                                      exact ⟨by omega, by omega, rfl⟩
                                refine L300 _ v5 0 (Nat.lt_succ_self _) ?_
                                exact ⟨by omega, by omega, rfl⟩
                          refine L291 _ v4 0 (Nat.lt_succ_self _) ?_
                          exact ⟨by omega, by omega, rfl⟩
                        · refine X.iload_n (i := 3) rfl rfl dX6_digest_222 (pc' := 223) rfl ?_
                          refine X.aload_n (i := 0) rfl rfl dX6_digest_223 (pc' := 224) rfl ?_
                          refine X.getR fk_X6_8 xcl_6 dX6_digest_224 hL2.1.1 hL2.1.2.1 (pc' := 227) rfl ?_
                          refine X.iconst dX6_digest_227 (pc' := 228) rfl ?_
                          refine X.iald (x := aB (lA L)) dX6_digest_228 hL2.1.2.2.1 (by omega) (by omega) ⟨by omega, by omega⟩ (mI_at hL2.2.1.2.1 (by omega)) (pc' := 229) rfl (fun r14 => ?_)
                          obtain ⟨r14a, r14b⟩ := r14
                          refine X.bipush (by decide +kernel) dX6_digest_229 (pc' := 231) rfl ?_
                          refine X.isub dX6_digest_231 (pc' := 232) rfl ?_
                          refine X.icmp_lt (tgt := 289) dX6_digest_232 ⟨by omega, by omega⟩ ⟨by omega, by omega⟩ (by decide) (pc' := 235) rfl (fun c232 => ?_) (fun c232 => ?_)
                          · refine X.iconst dX6_digest_289 (pc' := 290) rfl ?_
                            refine X.istore_n (i := 3) (ls' := [some (rf m), some (vl v4), none, some (vi 0), none, none, none]) (hi := rfl) (hd := dX6_digest_290) (by decide) rfl rfl (pc' := 291) rfl ?_
                            have L291 : ∀ (n291 : Nat) (v5 : Int64) (f : Int), (6 - f).toNat < n291 → (0 ≤ f ∧ f ≤ 6 ∧ v5 = itF (dmM (lA L)) v4 f.toNat) → X Ω RX6 cX6_digest 7 (some .long) false rm_X6_digest PR xNo 0 0 291 [some (rf m), some (vl v5), none, some (vi f), none, none, none] [] h1 := by
                              intro n291
                              induction n291 with
                              | zero => intro v5 f hm _; exfalso; omega
                              | succ n291 ih291 =>
                                intro v5 f hm291 hinv
                                obtain ⟨hf0, hf6, hv5⟩ := hinv
                                refine X.iload_n (i := 3) rfl rfl dX6_digest_291 (pc' := 292) rfl ?_
                                refine X.bipush (by decide +kernel) dX6_digest_292 (pc' := 294) rfl ?_
                                refine X.icmp_ge (tgt := 362) dX6_digest_294 ⟨by omega, by omega⟩ ⟨by omega, by omega⟩ (by decide) (pc' := 297) rfl (fun c294 => ?_) (fun c294 => ?_)
                                · refine X.iconst dX6_digest_362 (pc' := 363) rfl ?_
                                  refine X.istore_n (i := 3) (ls' := [some (rf m), some (vl v5), none, some (vi 0), none, none, none]) (hi := rfl) (hd := dX6_digest_363) (by decide) rfl rfl (pc' := 364) rfl ?_
                                  have L364 : ∀ (n364 : Nat) (v6 : Int64) (t : Int), (6 - t).toNat < n364 → (0 ≤ t ∧ t ≤ 6 ∧ v6 = itF (fun s => tkV (dsl (lA L) s)) v5 t.toNat) → X Ω RX6 cX6_digest 7 (some .long) false rm_X6_digest PR xNo 0 0 364 [some (rf m), some (vl v6), none, some (vi t), none, none, none] [] h1 := by
                                    intro n364
                                    induction n364 with
                                    | zero => intro v6 t hm _; exfalso; omega
                                    | succ n364 ih364 =>
                                      intro v6 t hm364 hinv
                                      obtain ⟨ht0, ht6, hv6⟩ := hinv
                                      refine X.iload_n (i := 3) rfl rfl dX6_digest_364 (pc' := 365) rfl ?_
                                      refine X.bipush (by decide +kernel) dX6_digest_365 (pc' := 367) rfl ?_
                                      refine X.icmp_ge (tgt := 397) dX6_digest_367 ⟨by omega, by omega⟩ ⟨by omega, by omega⟩ (by decide) (pc' := 370) rfl (fun c367 => ?_) (fun c367 => ?_)
                                      · refine X.ldc2 (v := 31) wd_1012 dX6_digest_397 (pc' := 400) rfl ?_
                                        refine X.lload_n (i := 1) rfl rfl dX6_digest_400 (pc' := 401) rfl ?_
                                        refine X.lmul dX6_digest_401 (pc' := 402) rfl ?_
                                        refine X.aload_n (i := 0) rfl rfl dX6_digest_402 (pc' := 403) rfl ?_
                                        refine X.callV (ci := 6) (a := m) (rm := rm_X6_best) (As := []) (st := [vl (31 * v6)]) dX6_digest_403 ck_X6_176 rfl (by decide) hL2.1.1 rfl rfl ⟨Nat.le_of_ble_eq_true rfl, Nat.le_of_ble_eq_true rfl⟩ (Nat.le_of_ble_eq_true rfl) (Nat.le_of_ble_eq_true rfl) (Nat.le_of_ble_eq_true rfl) (pc' := 406) rfl (k_X6_best hL2.1 hL2.2.1 hA) (fun q15 hq15 eq15 => ?_) (fun _ _ x1 => x1.elim)
                                        obtain ⟨rfl, bs, rfl, hbs⟩ := eq15
                                        have hbr := bst_rng hA
                                        refine X.i2l ⟨by omega, by omega⟩ dX6_digest_406 (pc' := 407) rfl ?_
                                        refine X.ladd dX6_digest_407 (pc' := 408) rfl ?_
                                        refine X.lstore_n (i := 1) (ls' := [some (rf m), some (vl ((31 * v6) + (Int64.ofInt bs))), none, some (vi t), none, none, none]) (hi := rfl) (hd := dX6_digest_408) (by decide) rfl rfl (pc' := 409) rfl ?_
                                        refine X.ldc2 (v := 31) wd_1012 dX6_digest_409 (pc' := 412) rfl ?_
                                        refine X.lload_n (i := 1) rfl rfl dX6_digest_412 (pc' := 413) rfl ?_
                                        refine X.lmul dX6_digest_413 (pc' := 414) rfl ?_
                                        refine X.aload_n (i := 0) rfl rfl dX6_digest_414 (pc' := 415) rfl ?_
                                        refine X.callV (ci := 6) (a := m) (rm := rm_X6_share) (As := []) (st := [vl (31 * ((31 * v6) + (Int64.ofInt bs)))]) dX6_digest_415 ck_X6_180 rfl (by decide) hL2.1.1 rfl rfl ⟨Nat.le_of_ble_eq_true rfl, Nat.le_of_ble_eq_true rfl⟩ (Nat.le_of_ble_eq_true rfl) (Nat.le_of_ble_eq_true rfl) (Nat.le_of_ble_eq_true rfl) (pc' := 418) rfl (k_X6_share hL2.1 hL2.2.1 hA) (fun q16 hq16 eq16 => ?_) (fun _ _ x1 => x1.elim)
                                        obtain ⟨rfl, rfl⟩ := eq16
                                        refine X.callS (rm := rm_D2) (As := [vd (shr (lA L))]) (st := [vl (31 * ((31 * v6) + (Int64.ofInt bs)))]) dX6_digest_418 ckD_2 rfl rfl ⟨Nat.le_of_ble_eq_true rfl, Nat.le_of_ble_eq_true rfl⟩ (Nat.le_of_ble_eq_true rfl) (Nat.le_of_ble_eq_true rfl) (Nat.le_of_ble_eq_true rfl) (pc' := 421) rfl (k_D2 (shr_ok hA)) (fun q17 hq17 eq17 => ?_) (fun _ _ x1 => x1.elim)
                                        obtain ⟨rfl, rfl⟩ := eq17
                                        refine X.ladd dX6_digest_421 (pc' := 422) rfl ?_
                                        refine X.lstore_n (i := 1) (ls' := [some (rf m), some (vl ((31 * ((31 * v6) + (Int64.ofInt bs))) + ((shr (lA L)).toInt64))), none, some (vi t), none, none, none]) (hi := rfl) (hd := dX6_digest_422) (by decide) rfl rfl (pc' := 423) rfl ?_
                                        refine X.ldc2 (v := 31) wd_1012 dX6_digest_423 (pc' := 426) rfl ?_
                                        refine X.lload_n (i := 1) rfl rfl dX6_digest_426 (pc' := 427) rfl ?_
                                        refine X.lmul dX6_digest_427 (pc' := 428) rfl ?_
                                        refine X.aload_n (i := 0) rfl rfl dX6_digest_428 (pc' := 429) rfl ?_
                                        have hTn2 : mI h1 m 5 = lTn L := hL2.2.2.2.2.2.2.1
                                        refine X.getI (x := mI h1 m 5) fk_X6_75 xcl_6 dX6_digest_429 (by decide) hL2.1.1 rfl (pc' := 432) rfl (fun r18 => ?_)
                                        obtain ⟨r18a, r18b⟩ := r18
                                        refine X.i2l ⟨by omega, by omega⟩ dX6_digest_432 (pc' := 433) rfl ?_
                                        refine X.ladd dX6_digest_433 (pc' := 434) rfl ?_
                                        refine X.lstore_n (i := 1) (ls' := [some (rf m), some (vl ((31 * ((31 * ((31 * v6) + (Int64.ofInt bs))) + ((shr (lA L)).toInt64))) + (Int64.ofInt (mI h1 m 5)))), none, some (vi t), none, none, none]) (hi := rfl) (hd := dX6_digest_434) (by decide) rfl rfl (pc' := 435) rfl ?_
                                        refine X.iconst dX6_digest_435 (pc' := 436) rfl ?_
                                        refine X.istore_n (i := 3) (ls' := [some (rf m), some (vl ((31 * ((31 * ((31 * v6) + (Int64.ofInt bs))) + ((shr (lA L)).toInt64))) + (Int64.ofInt (mI h1 m 5)))), none, some (vi 0), none, none, none]) (hi := rfl) (hd := dX6_digest_436) (by decide) rfl rfl (pc' := 437) rfl ?_
                                        have L437 : ∀ (n437 : Nat) (v7 : Int64) (k9 : Int), (lTn L - k9).toNat < n437 → (0 ≤ k9 ∧ k9 ≤ lTn L ∧ v7 = itF (fun k => tkV (lTg L k)) (tkV (lTn L) (31 * tkV (bst (lA L)) v6 + (shr (lA L)).toInt64)) k9.toNat) → X Ω RX6 cX6_digest 7 (some .long) false rm_X6_digest PR xNo 0 0 437 [some (rf m), some (vl v7), none, some (vi k9), none, none, none] [] h1 := by
                                          intro n437
                                          induction n437 with
                                          | zero => intro v7 k9 hm _; exfalso; omega
                                          | succ n437 ih437 =>
                                            intro v7 k9 hm437 hinv
                                            obtain ⟨hq0, hq9, hv7⟩ := hinv
                                            refine X.iload_n (i := 3) rfl rfl dX6_digest_437 (pc' := 438) rfl ?_
                                            refine X.aload_n (i := 0) rfl rfl dX6_digest_438 (pc' := 439) rfl ?_
                                            refine X.getI (x := mI h1 m 5) fk_X6_75 xcl_6 dX6_digest_439 (by decide) hL2.1.1 rfl (pc' := 442) rfl (fun r19 => ?_)
                                            obtain ⟨r19a, r19b⟩ := r19
                                            refine X.icmp_ge (tgt := 465) dX6_digest_442 ⟨by omega, by omega⟩ ⟨by omega, by omega⟩ (by decide) (pc' := 445) rfl (fun c442 => ?_) (fun c442 => ?_)
                                            · refine X.lload_n (i := 1) rfl rfl dX6_digest_465 (pc' := 466) rfl ?_
                                              refine X.lret dX6_digest_466 rfl (Nat.le_of_ble_eq_true rfl) (Nat.le_of_ble_eq_true rfl) ?_
                                              subst hPR
                                              have e1 : v1 = dgA L 3853 := by rw [hv1, show k = 10 by omega]; rfl
                                              have e2 : v2 = dgS (lA L) v1 := by rw [hv2, show s = 6 by omega]; rfl
                                              have e3 : v3 = dgW (lA L) v2 := by
                                                rw [hv3, show (aW (lA L) - 1 - n).toNat = (lstN (aW (lA L)) 12).toNat by unfold lstN; split <;> omega]
                                                rfl
                                              have e4 : v4 = dgB (lA L) v3 := by
                                                rw [hv4, show (aB (lA L) - 1 - bt).toNat = (lstN (aB (lA L)) 8).toNat by unfold lstN; split <;> omega]
                                                rfl
                                              have e5 : v5 = dgM (lA L) v4 := by rw [hv5, show f = 6 by omega]; rfl
                                              have e6 : v6 = dgL (lA L) v5 := by rw [hv6, show t = 6 by omega]; rfl
                                              refine ⟨hF2, ?_, hT0, hL2⟩
                                              rw [hv7, show k9 = lTn L by omega, e6, e5, e4, e3, e2, e1]
                                              rfl
                                            · refine X.ldc2 (v := 31) wd_1012 dX6_digest_445 (pc' := 448) rfl ?_
                                              refine X.lload_n (i := 1) rfl rfl dX6_digest_448 (pc' := 449) rfl ?_
                                              refine X.lmul dX6_digest_449 (pc' := 450) rfl ?_
                                              refine X.aload_n (i := 0) rfl rfl dX6_digest_450 (pc' := 451) rfl ?_
                                              refine X.getR fk_X6_14 xcl_6 dX6_digest_451 hL2.1.1 hL2.1.2.2.2.1 (pc' := 454) rfl ?_
                                              refine X.iload_n (i := 3) rfl rfl dX6_digest_454 (pc' := 455) rfl ?_
                                              refine X.cald (x := lTg L k9) dX6_digest_455 hL2.1.2.2.2.2.1 (by omega) (by omega) ⟨by omega, by omega⟩ (mI_at (hL2.2.2.2.2.2.2.2.1 k9 (by omega) (by omega)) (by omega)) (pc' := 456) rfl (fun r20 => ?_)
                                              obtain ⟨r20a, r20b⟩ := r20
                                              have r20c := (hO.2.2.2.2.2 k9 (by omega) (by omega))
                                              refine X.i2l ⟨by omega, by omega⟩ dX6_digest_456 (pc' := 457) rfl ?_
                                              refine X.ladd dX6_digest_457 (pc' := 458) rfl ?_
                                              refine X.lstore_n (i := 1) (ls' := [some (rf m), some (vl ((31 * v7) + (Int64.ofInt (lTg L k9)))), none, some (vi k9), none, none, none]) (hi := rfl) (hd := dX6_digest_458) (by decide) rfl rfl (pc' := 459) rfl ?_
                                              refine X.iinc (i := 3) (ls' := [some (rf m), some (vl ((31 * v7) + (Int64.ofInt (lTg L k9)))), none, some (vi (k9 + 1)), none, none, none]) dX6_digest_459 rfl (by decide) rfl rfl (pc' := 462) rfl ?_
                                              refine X.goto (tgt := 437) dX6_digest_462 (by decide) ?_
                                              refine ih437 ((31 * v7) + (Int64.ofInt (lTg L k9))) (k9 + 1) (by omega) ?_
                                              exact ⟨by omega, by omega, by rw [itF_at hq0, ← hv7]; rfl⟩
                                        refine L437 _ ((31 * ((31 * ((31 * v6) + (Int64.ofInt bs))) + ((shr (lA L)).toInt64))) + (Int64.ofInt (mI h1 m 5))) 0 (Nat.lt_succ_self _) ?_
                                        exact ⟨by omega, by omega, by rw [hbs, hTn2]; rfl⟩
                                      · refine X.ldc2 (v := 31) wd_1012 dX6_digest_370 (pc' := 373) rfl ?_
                                        refine X.lload_n (i := 1) rfl rfl dX6_digest_373 (pc' := 374) rfl ?_
                                        refine X.lmul dX6_digest_374 (pc' := 375) rfl ?_
                                        refine X.aload_n (i := 0) rfl rfl dX6_digest_375 (pc' := 376) rfl ?_
                                        refine X.aload_n (i := 0) rfl rfl dX6_digest_376 (pc' := 377) rfl ?_
                                        refine X.getR fk_X6_8 xcl_6 dX6_digest_377 hL2.1.1 hL2.1.2.1 (pc' := 380) rfl ?_
                                        refine X.iconst dX6_digest_380 (pc' := 381) rfl ?_
                                        refine X.iald (x := aW (lA L)) dX6_digest_381 hL2.1.2.2.1 (by omega) (by omega) ⟨by omega, by omega⟩ (mI_at hL2.2.1.2.2.1 (by omega)) (pc' := 382) rfl (fun r21 => ?_)
                                        obtain ⟨r21a, r21b⟩ := r21
                                        refine X.iconst dX6_digest_382 (pc' := 383) rfl ?_
                                        refine X.isub dX6_digest_383 (pc' := 384) rfl ?_
                                        refine X.iload_n (i := 3) rfl rfl dX6_digest_384 (pc' := 385) rfl ?_
                                        refine X.callV (ci := 6) (a := m) (rm := rm_X6_silentBeats) (As := [vi ((aW (lA L)) - 1), vi t]) (st := [vl (31 * v6)]) dX6_digest_385 ck_X6_173 rfl (by decide) hL2.1.1 rfl rfl ⟨Nat.le_of_ble_eq_true rfl, Nat.le_of_ble_eq_true rfl⟩ (Nat.le_of_ble_eq_true rfl) (Nat.le_of_ble_eq_true rfl) (Nat.le_of_ble_eq_true rfl) (pc' := 388) rfl (k_X6_silentBeats hL2.1 hL2.2.1 hA ⟨by omega, by omega⟩ ⟨by omega, by omega⟩) (fun q22 hq22 eq22 => ?_) (fun _ _ x1 => x1.elim)
                                        obtain ⟨rfl, r, rfl, hr⟩ := eq22
                                        have hr9 : r = dsl (lA L) t := by
                                          rw [hr]
                                          unfold dsl
                                          split <;> split <;> first | rfl | omega
                                        have hrr : -1 ≤ dsl (lA L) t ∧ dsl (lA L) t ≤ 60 := by
                                          have := sil_rng (lA L) (aW (lA L) - 1) t
                                          unfold dsl
                                          split <;> omega
                                        refine X.i2l ⟨by omega, by omega⟩ dX6_digest_388 (pc' := 389) rfl ?_
                                        refine X.ladd dX6_digest_389 (pc' := 390) rfl ?_
                                        refine X.lstore_n (i := 1) (ls' := [some (rf m), some (vl ((31 * v6) + (Int64.ofInt r))), none, some (vi t), none, none, none]) (hi := rfl) (hd := dX6_digest_390) (by decide) rfl rfl (pc' := 391) rfl ?_
                                        refine X.iinc (i := 3) (ls' := [some (rf m), some (vl ((31 * v6) + (Int64.ofInt r))), none, some (vi (t + 1)), none, none, none]) dX6_digest_391 rfl (by decide) rfl rfl (pc' := 394) rfl ?_
                                        refine X.goto (tgt := 364) dX6_digest_394 (by decide) ?_
                                        refine ih364 ((31 * v6) + (Int64.ofInt r)) (t + 1) (by omega) ?_
                                        exact ⟨by omega, by omega, by rw [itF_at ht0, ← hv6, hr9]; rfl⟩
                                  refine L364 _ v5 0 (Nat.lt_succ_self _) ?_
                                  exact ⟨by omega, by omega, rfl⟩
                                · refine X.iconst dX6_digest_297 (pc' := 298) rfl ?_
                                  refine X.istore (i := 4) (ls' := [some (rf m), some (vl v5), none, some (vi f), some (vi 0), none, none]) (hd := dX6_digest_298) (by decide) rfl rfl (pc' := 300) rfl ?_
                                  have L300 : ∀ (n300 : Nat) (z5 : Int64) (u : Int), (10 - u).toNat < n300 → (0 ≤ u ∧ u ≤ 10 ∧ z5 = itF (dmF (lA L) f) v5 u.toNat) → X Ω RX6 cX6_digest 7 (some .long) false rm_X6_digest PR xNo 0 0 300 [some (rf m), some (vl z5), none, some (vi f), some (vi u), none, none] [] h1 := by
                                    intro n300
                                    induction n300 with
                                    | zero => intro z5 u hm _; exfalso; omega
                                    | succ n300 ih300 =>
                                      intro z5 u hm300 hinv
                                      obtain ⟨hu0, hu9, hz5⟩ := hinv
                                      refine X.iload (i := 4) rfl dX6_digest_300 (pc' := 302) rfl ?_
                                      refine X.bipush (by decide +kernel) dX6_digest_302 (pc' := 304) rfl ?_
                                      refine X.icmp_ge (tgt := 356) dX6_digest_304 ⟨by omega, by omega⟩ ⟨by omega, by omega⟩ (by decide) (pc' := 307) rfl (fun c304 => ?_) (fun c304 => ?_)
                                      · refine X.iinc (i := 3) (ls' := [some (rf m), some (vl z5), none, some (vi (f + 1)), some (vi u), none, none]) dX6_digest_356 rfl (by decide) rfl rfl (pc' := 359) rfl ?_
                                        refine X.goto (tgt := 291) dX6_digest_359 (by decide) ?_
                                        refine X.mask (bs := [true, true, false, true, false, false, false]) (ls' := [some (rf m), some (vl z5), none, some (vi (f + 1)), none, none, none]) rfl ?_
                                        refine ih291 z5 (f + 1) (by omega) ?_
                                        exact ⟨by omega, by omega, by rw [itF_at hf0, ← hv5, hz5, show u = 10 by omega]; rfl⟩
                                      · refine X.iconst dX6_digest_307 (pc' := 308) rfl ?_
                                        refine X.istore (i := 5) (ls' := [some (rf m), some (vl z5), none, some (vi f), some (vi u), some (vi 0), none]) (hd := dX6_digest_308) (by decide) rfl rfl (pc' := 310) rfl ?_
                                        refine X.iconst dX6_digest_310 (pc' := 311) rfl ?_
                                        refine X.istore (i := 6) (ls' := [some (rf m), some (vl z5), none, some (vi f), some (vi u), some (vi 0), some (vi 0)]) (hd := dX6_digest_311) (by decide) rfl rfl (pc' := 313) rfl ?_
                                        have L313 : ∀ (n313 : Nat) (c : Int) (t : Int), (6 - t).toNat < n313 → (0 ≤ t ∧ t ≤ 6 ∧ c = smF (how (lA L) f u) t.toNat) → X Ω RX6 cX6_digest 7 (some .long) false rm_X6_digest PR xNo 0 0 313 [some (rf m), some (vl z5), none, some (vi f), some (vi u), some (vi c), some (vi t)] [] h1 := by
                                          intro n313
                                          induction n313 with
                                          | zero => intro c t hm _; exfalso; omega
                                          | succ n313 ih313 =>
                                            intro c t hm313 hinv
                                            obtain ⟨ht0, ht6, hc⟩ := hinv
                                            have hsm := smF_how (lA L) f u t.toNat
                                            refine X.iload (i := 6) rfl dX6_digest_313 (pc' := 315) rfl ?_
                                            refine X.bipush (by decide +kernel) dX6_digest_315 (pc' := 317) rfl ?_
                                            refine X.icmp_ge (tgt := 340) dX6_digest_317 ⟨by omega, by omega⟩ ⟨by omega, by omega⟩ (by decide) (pc' := 320) rfl (fun c317 => ?_) (fun c317 => ?_)
                                            · refine X.ldc2 (v := 31) wd_1012 dX6_digest_340 (pc' := 343) rfl ?_
                                              refine X.lload_n (i := 1) rfl rfl dX6_digest_343 (pc' := 344) rfl ?_
                                              refine X.lmul dX6_digest_344 (pc' := 345) rfl ?_
                                              refine X.iload (i := 5) rfl dX6_digest_345 (pc' := 347) rfl ?_
                                              refine X.i2l ⟨by omega, by omega⟩ dX6_digest_347 (pc' := 348) rfl ?_
                                              refine X.ladd dX6_digest_348 (pc' := 349) rfl ?_
                                              refine X.lstore_n (i := 1) (ls' := [some (rf m), some (vl ((31 * z5) + (Int64.ofInt c))), none, some (vi f), some (vi u), some (vi c), some (vi t)]) (hi := rfl) (hd := dX6_digest_349) (by decide) rfl rfl (pc' := 350) rfl ?_
                                              refine X.iinc (i := 4) (ls' := [some (rf m), some (vl ((31 * z5) + (Int64.ofInt c))), none, some (vi f), some (vi (u + 1)), some (vi c), some (vi t)]) dX6_digest_350 rfl (by decide) rfl rfl (pc' := 353) rfl ?_
                                              refine X.goto (tgt := 300) dX6_digest_353 (by decide) ?_
                                              refine X.mask (bs := [true, true, false, true, true, false, false]) (ls' := [some (rf m), some (vl ((31 * z5) + (Int64.ofInt c))), none, some (vi f), some (vi (u + 1)), none, none]) rfl ?_
                                              refine ih300 ((31 * z5) + (Int64.ofInt c)) (u + 1) (by omega) ?_
                                              exact ⟨by omega, by omega, by rw [itF_at hu0, ← hz5, hc, show t = 6 by omega]; rfl⟩
                                            · refine X.iload (i := 5) rfl dX6_digest_320 (pc' := 322) rfl ?_
                                              refine X.aload_n (i := 0) rfl rfl dX6_digest_322 (pc' := 323) rfl ?_
                                              refine X.iload_n (i := 3) rfl rfl dX6_digest_323 (pc' := 324) rfl ?_
                                              refine X.iload (i := 4) rfl dX6_digest_324 (pc' := 326) rfl ?_
                                              refine X.iload (i := 6) rfl dX6_digest_326 (pc' := 328) rfl ?_
                                              refine X.callV (ci := 6) (a := m) (rm := rm_X6_how) (As := [vi f, vi u, vi t]) (st := [vi c]) dX6_digest_328 ck_X6_157 rfl (by decide) hL2.1.1 rfl rfl ⟨Nat.le_of_ble_eq_true rfl, Nat.le_of_ble_eq_true rfl⟩ (Nat.le_of_ble_eq_true rfl) (Nat.le_of_ble_eq_true rfl) (Nat.le_of_ble_eq_true rfl) (pc' := 331) rfl (k_X6_how hL2.1 hL2.2.1 hA ⟨by omega, by omega⟩ ⟨by omega, by omega⟩ ⟨by omega, by omega⟩) (fun q23 hq23 eq23 => ?_) (fun _ _ x1 => x1.elim)
                                              obtain ⟨rfl, y, rfl, hy⟩ := eq23
                                              have hyr := how_rng (lA L) f u t
                                              refine X.iadd dX6_digest_331 (pc' := 332) rfl ?_
                                              refine X.gen (fun c2 hc2 => ?_)
                                              refine X.istore (i := 5) (ls' := [some (rf m), some (vl z5), none, some (vi f), some (vi u), some (vi c2), some (vi t)]) (hd := dX6_digest_332) (by decide) rfl rfl (pc' := 334) rfl ?_
                                              refine X.iinc (i := 6) (ls' := [some (rf m), some (vl z5), none, some (vi f), some (vi u), some (vi c2), some (vi (t + 1))]) dX6_digest_334 rfl (by decide) rfl rfl (pc' := 337) rfl ?_
                                              refine X.goto (tgt := 313) dX6_digest_337 (by decide) ?_
                                              refine ih313 c2 (t + 1) (by omega) ?_
                                              exact ⟨by omega, by omega, by rw [smF_at ht0, ← hc, ← hy]; omega⟩
                                        refine L313 _ 0 0 (Nat.lt_succ_self _) ?_
                                        exact ⟨by omega, by omega, rfl⟩
                                  refine L300 _ v5 0 (Nat.lt_succ_self _) ?_
                                  exact ⟨by omega, by omega, rfl⟩
                            refine L291 _ v4 0 (Nat.lt_succ_self _) ?_
                            exact ⟨by omega, by omega, rfl⟩
                          · refine X.iconst dX6_digest_235 (pc' := 236) rfl ?_
                            refine X.istore (i := 4) (ls' := [some (rf m), some (vl v4), none, some (vi bt), some (vi 0), none, none]) (hd := dX6_digest_236) (by decide) rfl rfl (pc' := 238) rfl ?_
                            have L238 : ∀ (n238 : Nat) (z4 : Int64) (t : Int), (6 - t).toNat < n238 → (0 ≤ t ∧ t ≤ 6 ∧ z4 = itF (dbS (lA L) bt) v4 t.toNat) → X Ω RX6 cX6_digest 7 (some .long) false rm_X6_digest PR xNo 0 0 238 [some (rf m), some (vl z4), none, some (vi bt), some (vi t), none, none] [] h1 := by
                              intro n238
                              induction n238 with
                              | zero => intro z4 t hm _; exfalso; omega
                              | succ n238 ih238 =>
                                intro z4 t hm238 hinv
                                obtain ⟨ht0, ht6, hz4⟩ := hinv
                                refine X.iload (i := 4) rfl dX6_digest_238 (pc' := 240) rfl ?_
                                refine X.bipush (by decide +kernel) dX6_digest_240 (pc' := 242) rfl ?_
                                refine X.icmp_ge (tgt := 283) dX6_digest_242 ⟨by omega, by omega⟩ ⟨by omega, by omega⟩ (by decide) (pc' := 245) rfl (fun c242 => ?_) (fun c242 => ?_)
                                · refine X.iinc (i := 3) (ls' := [some (rf m), some (vl z4), none, some (vi (bt + (-1))), some (vi t), none, none]) dX6_digest_283 rfl (by decide) rfl rfl (pc' := 286) rfl ?_
                                  refine X.goto (tgt := 218) dX6_digest_286 (by decide) ?_
                                  refine X.mask (bs := [true, true, false, true, false, false, false]) (ls' := [some (rf m), some (vl z4), none, some (vi (bt + (-1))), none, none, none]) rfl ?_
                                  refine ih218 z4 (bt + (-1)) (by omega) ?_
                                  refine ⟨by omega, by omega, by omega, ?_⟩
                                  rw [show aB (lA L) - 1 - (bt + -1) = aB (lA L) - 1 - bt + 1 by omega, itF_at (by omega), ← hv4]
                                  show _ = dbB (lA L) (aB (lA L) - 1 - (aB (lA L) - 1 - bt)) v4
                                  rw [show aB (lA L) - 1 - (aB (lA L) - 1 - bt) = bt by omega, hz4, show t = 6 by omega]
                                  rfl
                                · refine X.iconst dX6_digest_245 (pc' := 246) rfl ?_
                                  refine X.istore (i := 5) (ls' := [some (rf m), some (vl z4), none, some (vi bt), some (vi t), some (vi 0), none]) (hd := dX6_digest_246) (by decide) rfl rfl (pc' := 248) rfl ?_
                                  have L248 : ∀ (n248 : Nat) (y4 : Int64) (w : Int), (3 - w).toNat < n248 → (0 ≤ w ∧ w ≤ 3 ∧ y4 = itF (fun k => tkV (oBt (lA L) t bt k)) z4 w.toNat) → X Ω RX6 cX6_digest 7 (some .long) false rm_X6_digest PR xNo 0 0 248 [some (rf m), some (vl y4), none, some (vi bt), some (vi t), some (vi w), none] [] h1 := by
                                    intro n248
                                    induction n248 with
                                    | zero => intro y4 w hm _; exfalso; omega
                                    | succ n248 ih248 =>
                                      intro y4 w hm248 hinv
                                      obtain ⟨hw0, hw3, hy4⟩ := hinv
                                      refine X.iload (i := 5) rfl dX6_digest_248 (pc' := 250) rfl ?_
                                      refine X.iconst dX6_digest_250 (pc' := 251) rfl ?_
                                      refine X.icmp_ge (tgt := 277) dX6_digest_251 ⟨by omega, by omega⟩ ⟨by omega, by omega⟩ (by decide) (pc' := 254) rfl (fun c251 => ?_) (fun c251 => ?_)
                                      · refine X.iinc (i := 4) (ls' := [some (rf m), some (vl y4), none, some (vi bt), some (vi (t + 1)), some (vi w), none]) dX6_digest_277 rfl (by decide) rfl rfl (pc' := 280) rfl ?_
                                        refine X.goto (tgt := 238) dX6_digest_280 (by decide) ?_
                                        refine X.mask (bs := [true, true, false, true, true, false, false]) (ls' := [some (rf m), some (vl y4), none, some (vi bt), some (vi (t + 1)), none, none]) rfl ?_
                                        refine ih238 y4 (t + 1) (by omega) ?_
                                        exact ⟨by omega, by omega, by rw [itF_at ht0, ← hz4, hy4, show w = 3 by omega]; rfl⟩
                                      · refine X.ldc2 (v := 31) wd_1012 dX6_digest_254 (pc' := 257) rfl ?_
                                        refine X.lload_n (i := 1) rfl rfl dX6_digest_257 (pc' := 258) rfl ?_
                                        refine X.lmul dX6_digest_258 (pc' := 259) rfl ?_
                                        refine X.aload_n (i := 0) rfl rfl dX6_digest_259 (pc' := 260) rfl ?_
                                        refine X.iload (i := 4) rfl dX6_digest_260 (pc' := 262) rfl ?_
                                        refine X.iload_n (i := 3) rfl rfl dX6_digest_262 (pc' := 263) rfl ?_
                                        refine X.iload (i := 5) rfl dX6_digest_263 (pc' := 265) rfl ?_
                                        refine X.callV (ci := 6) (a := m) (rm := rm_X6_ofHeard) (As := [vi t, vi bt, vi w]) (st := [vl (31 * y4)]) dX6_digest_265 ck_X6_138 rfl (by decide) hL2.1.1 rfl rfl ⟨Nat.le_of_ble_eq_true rfl, Nat.le_of_ble_eq_true rfl⟩ (Nat.le_of_ble_eq_true rfl) (Nat.le_of_ble_eq_true rfl) (Nat.le_of_ble_eq_true rfl) (pc' := 268) rfl (k_X6_ofHeard hL2.1 hL2.2.1 hA ⟨by omega, by omega⟩ ⟨by omega, by omega⟩ ⟨by omega, by omega⟩) (fun q24 hq24 eq24 => ?_) (fun _ _ x1 => x1.elim)
                                        obtain ⟨rfl, r, rfl, hr⟩ := eq24
                                        rw [if_pos (by omega)] at hr
                                        have hrr := oBt_rng hA (s := t) (k := bt) (w := w) ⟨by omega, by omega⟩ ⟨by omega, by omega⟩
                                        refine X.i2l ⟨by omega, by omega⟩ dX6_digest_268 (pc' := 269) rfl ?_
                                        refine X.ladd dX6_digest_269 (pc' := 270) rfl ?_
                                        refine X.lstore_n (i := 1) (ls' := [some (rf m), some (vl ((31 * y4) + (Int64.ofInt r))), none, some (vi bt), some (vi t), some (vi w), none]) (hi := rfl) (hd := dX6_digest_270) (by decide) rfl rfl (pc' := 271) rfl ?_
                                        refine X.iinc (i := 5) (ls' := [some (rf m), some (vl ((31 * y4) + (Int64.ofInt r))), none, some (vi bt), some (vi t), some (vi (w + 1)), none]) dX6_digest_271 rfl (by decide) rfl rfl (pc' := 274) rfl ?_
                                        refine X.goto (tgt := 248) dX6_digest_274 (by decide) ?_
                                        refine ih248 ((31 * y4) + (Int64.ofInt r)) (w + 1) (by omega) ?_
                                        exact ⟨by omega, by omega, by rw [itF_at hw0, ← hy4, hr]; rfl⟩
                                  refine L248 _ z4 0 (Nat.lt_succ_self _) ?_
                                  exact ⟨by omega, by omega, rfl⟩
                            refine L238 _ v4 0 (Nat.lt_succ_self _) ?_
                            exact ⟨by omega, by omega, rfl⟩
                    refine L218 _ v3 b0 (Nat.lt_succ_self _) ?_
                    exact ⟨by omega, by omega, by omega, by rw [show (aB (lA L) - 1 - b0).toNat = 0 by omega]; rfl⟩
                  · refine X.iload_n (i := 3) rfl rfl dX6_digest_113 (pc' := 114) rfl ?_
                    refine X.aload_n (i := 0) rfl rfl dX6_digest_114 (pc' := 115) rfl ?_
                    refine X.getR fk_X6_8 xcl_6 dX6_digest_115 hL2.1.1 hL2.1.2.1 (pc' := 118) rfl ?_
                    refine X.iconst dX6_digest_118 (pc' := 119) rfl ?_
                    refine X.iald (x := aW (lA L)) dX6_digest_119 hL2.1.2.2.1 (by omega) (by omega) ⟨by omega, by omega⟩ (mI_at hL2.2.1.2.2.1 (by omega)) (pc' := 120) rfl (fun r25 => ?_)
                    obtain ⟨r25a, r25b⟩ := r25
                    refine X.bipush (by decide +kernel) dX6_digest_120 (pc' := 122) rfl ?_
                    refine X.isub dX6_digest_122 (pc' := 123) rfl ?_
                    refine X.icmp_lt (tgt := 209) dX6_digest_123 ⟨by omega, by omega⟩ ⟨by omega, by omega⟩ (by decide) (pc' := 126) rfl (fun c123 => ?_) (fun c123 => ?_)
                    · refine X.aload_n (i := 0) rfl rfl dX6_digest_209 (pc' := 210) rfl ?_
                      refine X.getR fk_X6_8 xcl_6 dX6_digest_210 hL2.1.1 hL2.1.2.1 (pc' := 213) rfl ?_
                      refine X.iconst dX6_digest_213 (pc' := 214) rfl ?_
                      refine X.iald (x := aB (lA L)) dX6_digest_214 hL2.1.2.2.1 (by omega) (by omega) ⟨by omega, by omega⟩ (mI_at hL2.2.1.2.1 (by omega)) (pc' := 215) rfl (fun r26 => ?_)
                      obtain ⟨r26a, r26b⟩ := r26
                      refine X.iconst dX6_digest_215 (pc' := 216) rfl ?_
                      refine X.isub dX6_digest_216 (pc' := 217) rfl ?_
                      refine X.gen (fun b0 hb0 => ?_)
                      refine X.istore_n (i := 3) (ls' := [some (rf m), some (vl v3), none, some (vi b0), none, none, none]) (hi := rfl) (hd := dX6_digest_217) (by decide) rfl rfl (pc' := 218) rfl ?_
                      have L218 : ∀ (n218 : Nat) (v4 : Int64) (bt : Int), (bt + 1).toNat < n218 → (-1 ≤ bt ∧ aB (lA L) - 9 ≤ bt ∧ bt ≤ aB (lA L) - 1 ∧ v4 = itF (fun i => dbB (lA L) (aB (lA L) - 1 - i)) v3 (aB (lA L) - 1 - bt).toNat) → X Ω RX6 cX6_digest 7 (some .long) false rm_X6_digest PR xNo 0 0 218 [some (rf m), some (vl v4), none, some (vi bt), none, none, none] [] h1 := by
                        intro n218
                        induction n218 with
                        | zero => intro v4 bt hm _; exfalso; omega
                        | succ n218 ih218 =>
                          intro v4 bt hm218 hinv
                          obtain ⟨hb0, hb8, hb1, hv4⟩ := hinv
                          refine X.iload_n (i := 3) rfl rfl dX6_digest_218 (pc' := 219) rfl ?_
                          refine X.if_lt (tgt := 289) dX6_digest_219 ⟨by omega, by omega⟩ (by decide) (pc' := 222) rfl (fun c219 => ?_) (fun c219 => ?_)
                          · refine X.iconst dX6_digest_289 (pc' := 290) rfl ?_
                            refine X.istore_n (i := 3) (ls' := [some (rf m), some (vl v4), none, some (vi 0), none, none, none]) (hi := rfl) (hd := dX6_digest_290) (by decide) rfl rfl (pc' := 291) rfl ?_
                            have L291 : ∀ (n291 : Nat) (v5 : Int64) (f : Int), (6 - f).toNat < n291 → (0 ≤ f ∧ f ≤ 6 ∧ v5 = itF (dmM (lA L)) v4 f.toNat) → X Ω RX6 cX6_digest 7 (some .long) false rm_X6_digest PR xNo 0 0 291 [some (rf m), some (vl v5), none, some (vi f), none, none, none] [] h1 := by
                              intro n291
                              induction n291 with
                              | zero => intro v5 f hm _; exfalso; omega
                              | succ n291 ih291 =>
                                intro v5 f hm291 hinv
                                obtain ⟨hf0, hf6, hv5⟩ := hinv
                                refine X.iload_n (i := 3) rfl rfl dX6_digest_291 (pc' := 292) rfl ?_
                                refine X.bipush (by decide +kernel) dX6_digest_292 (pc' := 294) rfl ?_
                                refine X.icmp_ge (tgt := 362) dX6_digest_294 ⟨by omega, by omega⟩ ⟨by omega, by omega⟩ (by decide) (pc' := 297) rfl (fun c294 => ?_) (fun c294 => ?_)
                                · refine X.iconst dX6_digest_362 (pc' := 363) rfl ?_
                                  refine X.istore_n (i := 3) (ls' := [some (rf m), some (vl v5), none, some (vi 0), none, none, none]) (hi := rfl) (hd := dX6_digest_363) (by decide) rfl rfl (pc' := 364) rfl ?_
                                  have L364 : ∀ (n364 : Nat) (v6 : Int64) (t : Int), (6 - t).toNat < n364 → (0 ≤ t ∧ t ≤ 6 ∧ v6 = itF (fun s => tkV (dsl (lA L) s)) v5 t.toNat) → X Ω RX6 cX6_digest 7 (some .long) false rm_X6_digest PR xNo 0 0 364 [some (rf m), some (vl v6), none, some (vi t), none, none, none] [] h1 := by
                                    intro n364
                                    induction n364 with
                                    | zero => intro v6 t hm _; exfalso; omega
                                    | succ n364 ih364 =>
                                      intro v6 t hm364 hinv
                                      obtain ⟨ht0, ht6, hv6⟩ := hinv
                                      refine X.iload_n (i := 3) rfl rfl dX6_digest_364 (pc' := 365) rfl ?_
                                      refine X.bipush (by decide +kernel) dX6_digest_365 (pc' := 367) rfl ?_
                                      refine X.icmp_ge (tgt := 397) dX6_digest_367 ⟨by omega, by omega⟩ ⟨by omega, by omega⟩ (by decide) (pc' := 370) rfl (fun c367 => ?_) (fun c367 => ?_)
                                      · refine X.ldc2 (v := 31) wd_1012 dX6_digest_397 (pc' := 400) rfl ?_
                                        refine X.lload_n (i := 1) rfl rfl dX6_digest_400 (pc' := 401) rfl ?_
                                        refine X.lmul dX6_digest_401 (pc' := 402) rfl ?_
                                        refine X.aload_n (i := 0) rfl rfl dX6_digest_402 (pc' := 403) rfl ?_
                                        refine X.callV (ci := 6) (a := m) (rm := rm_X6_best) (As := []) (st := [vl (31 * v6)]) dX6_digest_403 ck_X6_176 rfl (by decide) hL2.1.1 rfl rfl ⟨Nat.le_of_ble_eq_true rfl, Nat.le_of_ble_eq_true rfl⟩ (Nat.le_of_ble_eq_true rfl) (Nat.le_of_ble_eq_true rfl) (Nat.le_of_ble_eq_true rfl) (pc' := 406) rfl (k_X6_best hL2.1 hL2.2.1 hA) (fun q27 hq27 eq27 => ?_) (fun _ _ x1 => x1.elim)
                                        obtain ⟨rfl, bs, rfl, hbs⟩ := eq27
                                        have hbr := bst_rng hA
                                        refine X.i2l ⟨by omega, by omega⟩ dX6_digest_406 (pc' := 407) rfl ?_
                                        refine X.ladd dX6_digest_407 (pc' := 408) rfl ?_
                                        refine X.lstore_n (i := 1) (ls' := [some (rf m), some (vl ((31 * v6) + (Int64.ofInt bs))), none, some (vi t), none, none, none]) (hi := rfl) (hd := dX6_digest_408) (by decide) rfl rfl (pc' := 409) rfl ?_
                                        refine X.ldc2 (v := 31) wd_1012 dX6_digest_409 (pc' := 412) rfl ?_
                                        refine X.lload_n (i := 1) rfl rfl dX6_digest_412 (pc' := 413) rfl ?_
                                        refine X.lmul dX6_digest_413 (pc' := 414) rfl ?_
                                        refine X.aload_n (i := 0) rfl rfl dX6_digest_414 (pc' := 415) rfl ?_
                                        refine X.callV (ci := 6) (a := m) (rm := rm_X6_share) (As := []) (st := [vl (31 * ((31 * v6) + (Int64.ofInt bs)))]) dX6_digest_415 ck_X6_180 rfl (by decide) hL2.1.1 rfl rfl ⟨Nat.le_of_ble_eq_true rfl, Nat.le_of_ble_eq_true rfl⟩ (Nat.le_of_ble_eq_true rfl) (Nat.le_of_ble_eq_true rfl) (Nat.le_of_ble_eq_true rfl) (pc' := 418) rfl (k_X6_share hL2.1 hL2.2.1 hA) (fun q28 hq28 eq28 => ?_) (fun _ _ x1 => x1.elim)
                                        obtain ⟨rfl, rfl⟩ := eq28
                                        refine X.callS (rm := rm_D2) (As := [vd (shr (lA L))]) (st := [vl (31 * ((31 * v6) + (Int64.ofInt bs)))]) dX6_digest_418 ckD_2 rfl rfl ⟨Nat.le_of_ble_eq_true rfl, Nat.le_of_ble_eq_true rfl⟩ (Nat.le_of_ble_eq_true rfl) (Nat.le_of_ble_eq_true rfl) (Nat.le_of_ble_eq_true rfl) (pc' := 421) rfl (k_D2 (shr_ok hA)) (fun q29 hq29 eq29 => ?_) (fun _ _ x1 => x1.elim)
                                        obtain ⟨rfl, rfl⟩ := eq29
                                        refine X.ladd dX6_digest_421 (pc' := 422) rfl ?_
                                        refine X.lstore_n (i := 1) (ls' := [some (rf m), some (vl ((31 * ((31 * v6) + (Int64.ofInt bs))) + ((shr (lA L)).toInt64))), none, some (vi t), none, none, none]) (hi := rfl) (hd := dX6_digest_422) (by decide) rfl rfl (pc' := 423) rfl ?_
                                        refine X.ldc2 (v := 31) wd_1012 dX6_digest_423 (pc' := 426) rfl ?_
                                        refine X.lload_n (i := 1) rfl rfl dX6_digest_426 (pc' := 427) rfl ?_
                                        refine X.lmul dX6_digest_427 (pc' := 428) rfl ?_
                                        refine X.aload_n (i := 0) rfl rfl dX6_digest_428 (pc' := 429) rfl ?_
                                        have hTn2 : mI h1 m 5 = lTn L := hL2.2.2.2.2.2.2.1
                                        refine X.getI (x := mI h1 m 5) fk_X6_75 xcl_6 dX6_digest_429 (by decide) hL2.1.1 rfl (pc' := 432) rfl (fun r30 => ?_)
                                        obtain ⟨r30a, r30b⟩ := r30
                                        refine X.i2l ⟨by omega, by omega⟩ dX6_digest_432 (pc' := 433) rfl ?_
                                        refine X.ladd dX6_digest_433 (pc' := 434) rfl ?_
                                        refine X.lstore_n (i := 1) (ls' := [some (rf m), some (vl ((31 * ((31 * ((31 * v6) + (Int64.ofInt bs))) + ((shr (lA L)).toInt64))) + (Int64.ofInt (mI h1 m 5)))), none, some (vi t), none, none, none]) (hi := rfl) (hd := dX6_digest_434) (by decide) rfl rfl (pc' := 435) rfl ?_
                                        refine X.iconst dX6_digest_435 (pc' := 436) rfl ?_
                                        refine X.istore_n (i := 3) (ls' := [some (rf m), some (vl ((31 * ((31 * ((31 * v6) + (Int64.ofInt bs))) + ((shr (lA L)).toInt64))) + (Int64.ofInt (mI h1 m 5)))), none, some (vi 0), none, none, none]) (hi := rfl) (hd := dX6_digest_436) (by decide) rfl rfl (pc' := 437) rfl ?_
                                        have L437 : ∀ (n437 : Nat) (v7 : Int64) (k9 : Int), (lTn L - k9).toNat < n437 → (0 ≤ k9 ∧ k9 ≤ lTn L ∧ v7 = itF (fun k => tkV (lTg L k)) (tkV (lTn L) (31 * tkV (bst (lA L)) v6 + (shr (lA L)).toInt64)) k9.toNat) → X Ω RX6 cX6_digest 7 (some .long) false rm_X6_digest PR xNo 0 0 437 [some (rf m), some (vl v7), none, some (vi k9), none, none, none] [] h1 := by
                                          intro n437
                                          induction n437 with
                                          | zero => intro v7 k9 hm _; exfalso; omega
                                          | succ n437 ih437 =>
                                            intro v7 k9 hm437 hinv
                                            obtain ⟨hq0, hq9, hv7⟩ := hinv
                                            refine X.iload_n (i := 3) rfl rfl dX6_digest_437 (pc' := 438) rfl ?_
                                            refine X.aload_n (i := 0) rfl rfl dX6_digest_438 (pc' := 439) rfl ?_
                                            refine X.getI (x := mI h1 m 5) fk_X6_75 xcl_6 dX6_digest_439 (by decide) hL2.1.1 rfl (pc' := 442) rfl (fun r31 => ?_)
                                            obtain ⟨r31a, r31b⟩ := r31
                                            refine X.icmp_ge (tgt := 465) dX6_digest_442 ⟨by omega, by omega⟩ ⟨by omega, by omega⟩ (by decide) (pc' := 445) rfl (fun c442 => ?_) (fun c442 => ?_)
                                            · refine X.lload_n (i := 1) rfl rfl dX6_digest_465 (pc' := 466) rfl ?_
                                              refine X.lret dX6_digest_466 rfl (Nat.le_of_ble_eq_true rfl) (Nat.le_of_ble_eq_true rfl) ?_
                                              subst hPR
                                              have e1 : v1 = dgA L 3853 := by rw [hv1, show k = 10 by omega]; rfl
                                              have e2 : v2 = dgS (lA L) v1 := by rw [hv2, show s = 6 by omega]; rfl
                                              have e3 : v3 = dgW (lA L) v2 := by
                                                rw [hv3, show (aW (lA L) - 1 - n).toNat = (lstN (aW (lA L)) 12).toNat by unfold lstN; split <;> omega]
                                                rfl
                                              have e4 : v4 = dgB (lA L) v3 := by
                                                rw [hv4, show (aB (lA L) - 1 - bt).toNat = (lstN (aB (lA L)) 8).toNat by unfold lstN; split <;> omega]
                                                rfl
                                              have e5 : v5 = dgM (lA L) v4 := by rw [hv5, show f = 6 by omega]; rfl
                                              have e6 : v6 = dgL (lA L) v5 := by rw [hv6, show t = 6 by omega]; rfl
                                              refine ⟨hF2, ?_, hT0, hL2⟩
                                              rw [hv7, show k9 = lTn L by omega, e6, e5, e4, e3, e2, e1]
                                              rfl
                                            · refine X.ldc2 (v := 31) wd_1012 dX6_digest_445 (pc' := 448) rfl ?_
                                              refine X.lload_n (i := 1) rfl rfl dX6_digest_448 (pc' := 449) rfl ?_
                                              refine X.lmul dX6_digest_449 (pc' := 450) rfl ?_
                                              refine X.aload_n (i := 0) rfl rfl dX6_digest_450 (pc' := 451) rfl ?_
                                              refine X.getR fk_X6_14 xcl_6 dX6_digest_451 hL2.1.1 hL2.1.2.2.2.1 (pc' := 454) rfl ?_
                                              refine X.iload_n (i := 3) rfl rfl dX6_digest_454 (pc' := 455) rfl ?_
                                              refine X.cald (x := lTg L k9) dX6_digest_455 hL2.1.2.2.2.2.1 (by omega) (by omega) ⟨by omega, by omega⟩ (mI_at (hL2.2.2.2.2.2.2.2.1 k9 (by omega) (by omega)) (by omega)) (pc' := 456) rfl (fun r32 => ?_)
                                              obtain ⟨r32a, r32b⟩ := r32
                                              have r32c := (hO.2.2.2.2.2 k9 (by omega) (by omega))
                                              refine X.i2l ⟨by omega, by omega⟩ dX6_digest_456 (pc' := 457) rfl ?_
                                              refine X.ladd dX6_digest_457 (pc' := 458) rfl ?_
                                              refine X.lstore_n (i := 1) (ls' := [some (rf m), some (vl ((31 * v7) + (Int64.ofInt (lTg L k9)))), none, some (vi k9), none, none, none]) (hi := rfl) (hd := dX6_digest_458) (by decide) rfl rfl (pc' := 459) rfl ?_
                                              refine X.iinc (i := 3) (ls' := [some (rf m), some (vl ((31 * v7) + (Int64.ofInt (lTg L k9)))), none, some (vi (k9 + 1)), none, none, none]) dX6_digest_459 rfl (by decide) rfl rfl (pc' := 462) rfl ?_
                                              refine X.goto (tgt := 437) dX6_digest_462 (by decide) ?_
                                              refine ih437 ((31 * v7) + (Int64.ofInt (lTg L k9))) (k9 + 1) (by omega) ?_
                                              exact ⟨by omega, by omega, by rw [itF_at hq0, ← hv7]; rfl⟩
                                        refine L437 _ ((31 * ((31 * ((31 * v6) + (Int64.ofInt bs))) + ((shr (lA L)).toInt64))) + (Int64.ofInt (mI h1 m 5))) 0 (Nat.lt_succ_self _) ?_
                                        exact ⟨by omega, by omega, by rw [hbs, hTn2]; rfl⟩
                                      · refine X.ldc2 (v := 31) wd_1012 dX6_digest_370 (pc' := 373) rfl ?_
                                        refine X.lload_n (i := 1) rfl rfl dX6_digest_373 (pc' := 374) rfl ?_
                                        refine X.lmul dX6_digest_374 (pc' := 375) rfl ?_
                                        refine X.aload_n (i := 0) rfl rfl dX6_digest_375 (pc' := 376) rfl ?_
                                        refine X.aload_n (i := 0) rfl rfl dX6_digest_376 (pc' := 377) rfl ?_
                                        refine X.getR fk_X6_8 xcl_6 dX6_digest_377 hL2.1.1 hL2.1.2.1 (pc' := 380) rfl ?_
                                        refine X.iconst dX6_digest_380 (pc' := 381) rfl ?_
                                        refine X.iald (x := aW (lA L)) dX6_digest_381 hL2.1.2.2.1 (by omega) (by omega) ⟨by omega, by omega⟩ (mI_at hL2.2.1.2.2.1 (by omega)) (pc' := 382) rfl (fun r33 => ?_)
                                        obtain ⟨r33a, r33b⟩ := r33
                                        refine X.iconst dX6_digest_382 (pc' := 383) rfl ?_
                                        refine X.isub dX6_digest_383 (pc' := 384) rfl ?_
                                        refine X.iload_n (i := 3) rfl rfl dX6_digest_384 (pc' := 385) rfl ?_
                                        refine X.callV (ci := 6) (a := m) (rm := rm_X6_silentBeats) (As := [vi ((aW (lA L)) - 1), vi t]) (st := [vl (31 * v6)]) dX6_digest_385 ck_X6_173 rfl (by decide) hL2.1.1 rfl rfl ⟨Nat.le_of_ble_eq_true rfl, Nat.le_of_ble_eq_true rfl⟩ (Nat.le_of_ble_eq_true rfl) (Nat.le_of_ble_eq_true rfl) (Nat.le_of_ble_eq_true rfl) (pc' := 388) rfl (k_X6_silentBeats hL2.1 hL2.2.1 hA ⟨by omega, by omega⟩ ⟨by omega, by omega⟩) (fun q34 hq34 eq34 => ?_) (fun _ _ x1 => x1.elim)
                                        obtain ⟨rfl, r, rfl, hr⟩ := eq34
                                        have hr9 : r = dsl (lA L) t := by
                                          rw [hr]
                                          unfold dsl
                                          split <;> split <;> first | rfl | omega
                                        have hrr : -1 ≤ dsl (lA L) t ∧ dsl (lA L) t ≤ 60 := by
                                          have := sil_rng (lA L) (aW (lA L) - 1) t
                                          unfold dsl
                                          split <;> omega
                                        refine X.i2l ⟨by omega, by omega⟩ dX6_digest_388 (pc' := 389) rfl ?_
                                        refine X.ladd dX6_digest_389 (pc' := 390) rfl ?_
                                        refine X.lstore_n (i := 1) (ls' := [some (rf m), some (vl ((31 * v6) + (Int64.ofInt r))), none, some (vi t), none, none, none]) (hi := rfl) (hd := dX6_digest_390) (by decide) rfl rfl (pc' := 391) rfl ?_
                                        refine X.iinc (i := 3) (ls' := [some (rf m), some (vl ((31 * v6) + (Int64.ofInt r))), none, some (vi (t + 1)), none, none, none]) dX6_digest_391 rfl (by decide) rfl rfl (pc' := 394) rfl ?_
                                        refine X.goto (tgt := 364) dX6_digest_394 (by decide) ?_
                                        refine ih364 ((31 * v6) + (Int64.ofInt r)) (t + 1) (by omega) ?_
                                        exact ⟨by omega, by omega, by rw [itF_at ht0, ← hv6, hr9]; rfl⟩
                                  refine L364 _ v5 0 (Nat.lt_succ_self _) ?_
                                  exact ⟨by omega, by omega, rfl⟩
                                · refine X.iconst dX6_digest_297 (pc' := 298) rfl ?_
                                  refine X.istore (i := 4) (ls' := [some (rf m), some (vl v5), none, some (vi f), some (vi 0), none, none]) (hd := dX6_digest_298) (by decide) rfl rfl (pc' := 300) rfl ?_
                                  have L300 : ∀ (n300 : Nat) (z5 : Int64) (u : Int), (10 - u).toNat < n300 → (0 ≤ u ∧ u ≤ 10 ∧ z5 = itF (dmF (lA L) f) v5 u.toNat) → X Ω RX6 cX6_digest 7 (some .long) false rm_X6_digest PR xNo 0 0 300 [some (rf m), some (vl z5), none, some (vi f), some (vi u), none, none] [] h1 := by
                                    intro n300
                                    induction n300 with
                                    | zero => intro z5 u hm _; exfalso; omega
                                    | succ n300 ih300 =>
                                      intro z5 u hm300 hinv
                                      obtain ⟨hu0, hu9, hz5⟩ := hinv
                                      refine X.iload (i := 4) rfl dX6_digest_300 (pc' := 302) rfl ?_
                                      refine X.bipush (by decide +kernel) dX6_digest_302 (pc' := 304) rfl ?_
                                      refine X.icmp_ge (tgt := 356) dX6_digest_304 ⟨by omega, by omega⟩ ⟨by omega, by omega⟩ (by decide) (pc' := 307) rfl (fun c304 => ?_) (fun c304 => ?_)
                                      · refine X.iinc (i := 3) (ls' := [some (rf m), some (vl z5), none, some (vi (f + 1)), some (vi u), none, none]) dX6_digest_356 rfl (by decide) rfl rfl (pc' := 359) rfl ?_
                                        refine X.goto (tgt := 291) dX6_digest_359 (by decide) ?_
                                        refine X.mask (bs := [true, true, false, true, false, false, false]) (ls' := [some (rf m), some (vl z5), none, some (vi (f + 1)), none, none, none]) rfl ?_
                                        refine ih291 z5 (f + 1) (by omega) ?_
                                        exact ⟨by omega, by omega, by rw [itF_at hf0, ← hv5, hz5, show u = 10 by omega]; rfl⟩
                                      · refine X.iconst dX6_digest_307 (pc' := 308) rfl ?_
                                        refine X.istore (i := 5) (ls' := [some (rf m), some (vl z5), none, some (vi f), some (vi u), some (vi 0), none]) (hd := dX6_digest_308) (by decide) rfl rfl (pc' := 310) rfl ?_
                                        refine X.iconst dX6_digest_310 (pc' := 311) rfl ?_
                                        refine X.istore (i := 6) (ls' := [some (rf m), some (vl z5), none, some (vi f), some (vi u), some (vi 0), some (vi 0)]) (hd := dX6_digest_311) (by decide) rfl rfl (pc' := 313) rfl ?_
                                        have L313 : ∀ (n313 : Nat) (c : Int) (t : Int), (6 - t).toNat < n313 → (0 ≤ t ∧ t ≤ 6 ∧ c = smF (how (lA L) f u) t.toNat) → X Ω RX6 cX6_digest 7 (some .long) false rm_X6_digest PR xNo 0 0 313 [some (rf m), some (vl z5), none, some (vi f), some (vi u), some (vi c), some (vi t)] [] h1 := by
                                          intro n313
                                          induction n313 with
                                          | zero => intro c t hm _; exfalso; omega
                                          | succ n313 ih313 =>
                                            intro c t hm313 hinv
                                            obtain ⟨ht0, ht6, hc⟩ := hinv
                                            have hsm := smF_how (lA L) f u t.toNat
                                            refine X.iload (i := 6) rfl dX6_digest_313 (pc' := 315) rfl ?_
                                            refine X.bipush (by decide +kernel) dX6_digest_315 (pc' := 317) rfl ?_
                                            refine X.icmp_ge (tgt := 340) dX6_digest_317 ⟨by omega, by omega⟩ ⟨by omega, by omega⟩ (by decide) (pc' := 320) rfl (fun c317 => ?_) (fun c317 => ?_)
                                            · refine X.ldc2 (v := 31) wd_1012 dX6_digest_340 (pc' := 343) rfl ?_
                                              refine X.lload_n (i := 1) rfl rfl dX6_digest_343 (pc' := 344) rfl ?_
                                              refine X.lmul dX6_digest_344 (pc' := 345) rfl ?_
                                              refine X.iload (i := 5) rfl dX6_digest_345 (pc' := 347) rfl ?_
                                              refine X.i2l ⟨by omega, by omega⟩ dX6_digest_347 (pc' := 348) rfl ?_
                                              refine X.ladd dX6_digest_348 (pc' := 349) rfl ?_
                                              refine X.lstore_n (i := 1) (ls' := [some (rf m), some (vl ((31 * z5) + (Int64.ofInt c))), none, some (vi f), some (vi u), some (vi c), some (vi t)]) (hi := rfl) (hd := dX6_digest_349) (by decide) rfl rfl (pc' := 350) rfl ?_
                                              refine X.iinc (i := 4) (ls' := [some (rf m), some (vl ((31 * z5) + (Int64.ofInt c))), none, some (vi f), some (vi (u + 1)), some (vi c), some (vi t)]) dX6_digest_350 rfl (by decide) rfl rfl (pc' := 353) rfl ?_
                                              refine X.goto (tgt := 300) dX6_digest_353 (by decide) ?_
                                              refine X.mask (bs := [true, true, false, true, true, false, false]) (ls' := [some (rf m), some (vl ((31 * z5) + (Int64.ofInt c))), none, some (vi f), some (vi (u + 1)), none, none]) rfl ?_
                                              refine ih300 ((31 * z5) + (Int64.ofInt c)) (u + 1) (by omega) ?_
                                              exact ⟨by omega, by omega, by rw [itF_at hu0, ← hz5, hc, show t = 6 by omega]; rfl⟩
                                            · refine X.iload (i := 5) rfl dX6_digest_320 (pc' := 322) rfl ?_
                                              refine X.aload_n (i := 0) rfl rfl dX6_digest_322 (pc' := 323) rfl ?_
                                              refine X.iload_n (i := 3) rfl rfl dX6_digest_323 (pc' := 324) rfl ?_
                                              refine X.iload (i := 4) rfl dX6_digest_324 (pc' := 326) rfl ?_
                                              refine X.iload (i := 6) rfl dX6_digest_326 (pc' := 328) rfl ?_
                                              refine X.callV (ci := 6) (a := m) (rm := rm_X6_how) (As := [vi f, vi u, vi t]) (st := [vi c]) dX6_digest_328 ck_X6_157 rfl (by decide) hL2.1.1 rfl rfl ⟨Nat.le_of_ble_eq_true rfl, Nat.le_of_ble_eq_true rfl⟩ (Nat.le_of_ble_eq_true rfl) (Nat.le_of_ble_eq_true rfl) (Nat.le_of_ble_eq_true rfl) (pc' := 331) rfl (k_X6_how hL2.1 hL2.2.1 hA ⟨by omega, by omega⟩ ⟨by omega, by omega⟩ ⟨by omega, by omega⟩) (fun q35 hq35 eq35 => ?_) (fun _ _ x1 => x1.elim)
                                              obtain ⟨rfl, y, rfl, hy⟩ := eq35
                                              have hyr := how_rng (lA L) f u t
                                              refine X.iadd dX6_digest_331 (pc' := 332) rfl ?_
                                              refine X.gen (fun c2 hc2 => ?_)
                                              refine X.istore (i := 5) (ls' := [some (rf m), some (vl z5), none, some (vi f), some (vi u), some (vi c2), some (vi t)]) (hd := dX6_digest_332) (by decide) rfl rfl (pc' := 334) rfl ?_
                                              refine X.iinc (i := 6) (ls' := [some (rf m), some (vl z5), none, some (vi f), some (vi u), some (vi c2), some (vi (t + 1))]) dX6_digest_334 rfl (by decide) rfl rfl (pc' := 337) rfl ?_
                                              refine X.goto (tgt := 313) dX6_digest_337 (by decide) ?_
                                              refine ih313 c2 (t + 1) (by omega) ?_
                                              exact ⟨by omega, by omega, by rw [smF_at ht0, ← hc, ← hy]; omega⟩
                                        refine L313 _ 0 0 (Nat.lt_succ_self _) ?_
                                        exact ⟨by omega, by omega, rfl⟩
                                  refine L300 _ v5 0 (Nat.lt_succ_self _) ?_
                                  exact ⟨by omega, by omega, rfl⟩
                            refine L291 _ v4 0 (Nat.lt_succ_self _) ?_
                            exact ⟨by omega, by omega, rfl⟩
                          · refine X.iload_n (i := 3) rfl rfl dX6_digest_222 (pc' := 223) rfl ?_
                            refine X.aload_n (i := 0) rfl rfl dX6_digest_223 (pc' := 224) rfl ?_
                            refine X.getR fk_X6_8 xcl_6 dX6_digest_224 hL2.1.1 hL2.1.2.1 (pc' := 227) rfl ?_
                            refine X.iconst dX6_digest_227 (pc' := 228) rfl ?_
                            refine X.iald (x := aB (lA L)) dX6_digest_228 hL2.1.2.2.1 (by omega) (by omega) ⟨by omega, by omega⟩ (mI_at hL2.2.1.2.1 (by omega)) (pc' := 229) rfl (fun r36 => ?_)
                            obtain ⟨r36a, r36b⟩ := r36
                            refine X.bipush (by decide +kernel) dX6_digest_229 (pc' := 231) rfl ?_
                            refine X.isub dX6_digest_231 (pc' := 232) rfl ?_
                            refine X.icmp_lt (tgt := 289) dX6_digest_232 ⟨by omega, by omega⟩ ⟨by omega, by omega⟩ (by decide) (pc' := 235) rfl (fun c232 => ?_) (fun c232 => ?_)
                            · refine X.iconst dX6_digest_289 (pc' := 290) rfl ?_
                              refine X.istore_n (i := 3) (ls' := [some (rf m), some (vl v4), none, some (vi 0), none, none, none]) (hi := rfl) (hd := dX6_digest_290) (by decide) rfl rfl (pc' := 291) rfl ?_
                              have L291 : ∀ (n291 : Nat) (v5 : Int64) (f : Int), (6 - f).toNat < n291 → (0 ≤ f ∧ f ≤ 6 ∧ v5 = itF (dmM (lA L)) v4 f.toNat) → X Ω RX6 cX6_digest 7 (some .long) false rm_X6_digest PR xNo 0 0 291 [some (rf m), some (vl v5), none, some (vi f), none, none, none] [] h1 := by
                                intro n291
                                induction n291 with
                                | zero => intro v5 f hm _; exfalso; omega
                                | succ n291 ih291 =>
                                  intro v5 f hm291 hinv
                                  obtain ⟨hf0, hf6, hv5⟩ := hinv
                                  refine X.iload_n (i := 3) rfl rfl dX6_digest_291 (pc' := 292) rfl ?_
                                  refine X.bipush (by decide +kernel) dX6_digest_292 (pc' := 294) rfl ?_
                                  refine X.icmp_ge (tgt := 362) dX6_digest_294 ⟨by omega, by omega⟩ ⟨by omega, by omega⟩ (by decide) (pc' := 297) rfl (fun c294 => ?_) (fun c294 => ?_)
                                  · refine X.iconst dX6_digest_362 (pc' := 363) rfl ?_
                                    refine X.istore_n (i := 3) (ls' := [some (rf m), some (vl v5), none, some (vi 0), none, none, none]) (hi := rfl) (hd := dX6_digest_363) (by decide) rfl rfl (pc' := 364) rfl ?_
                                    have L364 : ∀ (n364 : Nat) (v6 : Int64) (t : Int), (6 - t).toNat < n364 → (0 ≤ t ∧ t ≤ 6 ∧ v6 = itF (fun s => tkV (dsl (lA L) s)) v5 t.toNat) → X Ω RX6 cX6_digest 7 (some .long) false rm_X6_digest PR xNo 0 0 364 [some (rf m), some (vl v6), none, some (vi t), none, none, none] [] h1 := by
                                      intro n364
                                      induction n364 with
                                      | zero => intro v6 t hm _; exfalso; omega
                                      | succ n364 ih364 =>
                                        intro v6 t hm364 hinv
                                        obtain ⟨ht0, ht6, hv6⟩ := hinv
                                        refine X.iload_n (i := 3) rfl rfl dX6_digest_364 (pc' := 365) rfl ?_
                                        refine X.bipush (by decide +kernel) dX6_digest_365 (pc' := 367) rfl ?_
                                        refine X.icmp_ge (tgt := 397) dX6_digest_367 ⟨by omega, by omega⟩ ⟨by omega, by omega⟩ (by decide) (pc' := 370) rfl (fun c367 => ?_) (fun c367 => ?_)
                                        · refine X.ldc2 (v := 31) wd_1012 dX6_digest_397 (pc' := 400) rfl ?_
                                          refine X.lload_n (i := 1) rfl rfl dX6_digest_400 (pc' := 401) rfl ?_
                                          refine X.lmul dX6_digest_401 (pc' := 402) rfl ?_
                                          refine X.aload_n (i := 0) rfl rfl dX6_digest_402 (pc' := 403) rfl ?_
                                          refine X.callV (ci := 6) (a := m) (rm := rm_X6_best) (As := []) (st := [vl (31 * v6)]) dX6_digest_403 ck_X6_176 rfl (by decide) hL2.1.1 rfl rfl ⟨Nat.le_of_ble_eq_true rfl, Nat.le_of_ble_eq_true rfl⟩ (Nat.le_of_ble_eq_true rfl) (Nat.le_of_ble_eq_true rfl) (Nat.le_of_ble_eq_true rfl) (pc' := 406) rfl (k_X6_best hL2.1 hL2.2.1 hA) (fun q37 hq37 eq37 => ?_) (fun _ _ x1 => x1.elim)
                                          obtain ⟨rfl, bs, rfl, hbs⟩ := eq37
                                          have hbr := bst_rng hA
                                          refine X.i2l ⟨by omega, by omega⟩ dX6_digest_406 (pc' := 407) rfl ?_
                                          refine X.ladd dX6_digest_407 (pc' := 408) rfl ?_
                                          refine X.lstore_n (i := 1) (ls' := [some (rf m), some (vl ((31 * v6) + (Int64.ofInt bs))), none, some (vi t), none, none, none]) (hi := rfl) (hd := dX6_digest_408) (by decide) rfl rfl (pc' := 409) rfl ?_
                                          refine X.ldc2 (v := 31) wd_1012 dX6_digest_409 (pc' := 412) rfl ?_
                                          refine X.lload_n (i := 1) rfl rfl dX6_digest_412 (pc' := 413) rfl ?_
                                          refine X.lmul dX6_digest_413 (pc' := 414) rfl ?_
                                          refine X.aload_n (i := 0) rfl rfl dX6_digest_414 (pc' := 415) rfl ?_
                                          refine X.callV (ci := 6) (a := m) (rm := rm_X6_share) (As := []) (st := [vl (31 * ((31 * v6) + (Int64.ofInt bs)))]) dX6_digest_415 ck_X6_180 rfl (by decide) hL2.1.1 rfl rfl ⟨Nat.le_of_ble_eq_true rfl, Nat.le_of_ble_eq_true rfl⟩ (Nat.le_of_ble_eq_true rfl) (Nat.le_of_ble_eq_true rfl) (Nat.le_of_ble_eq_true rfl) (pc' := 418) rfl (k_X6_share hL2.1 hL2.2.1 hA) (fun q38 hq38 eq38 => ?_) (fun _ _ x1 => x1.elim)
                                          obtain ⟨rfl, rfl⟩ := eq38
                                          refine X.callS (rm := rm_D2) (As := [vd (shr (lA L))]) (st := [vl (31 * ((31 * v6) + (Int64.ofInt bs)))]) dX6_digest_418 ckD_2 rfl rfl ⟨Nat.le_of_ble_eq_true rfl, Nat.le_of_ble_eq_true rfl⟩ (Nat.le_of_ble_eq_true rfl) (Nat.le_of_ble_eq_true rfl) (Nat.le_of_ble_eq_true rfl) (pc' := 421) rfl (k_D2 (shr_ok hA)) (fun q39 hq39 eq39 => ?_) (fun _ _ x1 => x1.elim)
                                          obtain ⟨rfl, rfl⟩ := eq39
                                          refine X.ladd dX6_digest_421 (pc' := 422) rfl ?_
                                          refine X.lstore_n (i := 1) (ls' := [some (rf m), some (vl ((31 * ((31 * v6) + (Int64.ofInt bs))) + ((shr (lA L)).toInt64))), none, some (vi t), none, none, none]) (hi := rfl) (hd := dX6_digest_422) (by decide) rfl rfl (pc' := 423) rfl ?_
                                          refine X.ldc2 (v := 31) wd_1012 dX6_digest_423 (pc' := 426) rfl ?_
                                          refine X.lload_n (i := 1) rfl rfl dX6_digest_426 (pc' := 427) rfl ?_
                                          refine X.lmul dX6_digest_427 (pc' := 428) rfl ?_
                                          refine X.aload_n (i := 0) rfl rfl dX6_digest_428 (pc' := 429) rfl ?_
                                          have hTn2 : mI h1 m 5 = lTn L := hL2.2.2.2.2.2.2.1
                                          refine X.getI (x := mI h1 m 5) fk_X6_75 xcl_6 dX6_digest_429 (by decide) hL2.1.1 rfl (pc' := 432) rfl (fun r40 => ?_)
                                          obtain ⟨r40a, r40b⟩ := r40
                                          refine X.i2l ⟨by omega, by omega⟩ dX6_digest_432 (pc' := 433) rfl ?_
                                          refine X.ladd dX6_digest_433 (pc' := 434) rfl ?_
                                          refine X.lstore_n (i := 1) (ls' := [some (rf m), some (vl ((31 * ((31 * ((31 * v6) + (Int64.ofInt bs))) + ((shr (lA L)).toInt64))) + (Int64.ofInt (mI h1 m 5)))), none, some (vi t), none, none, none]) (hi := rfl) (hd := dX6_digest_434) (by decide) rfl rfl (pc' := 435) rfl ?_
                                          refine X.iconst dX6_digest_435 (pc' := 436) rfl ?_
                                          refine X.istore_n (i := 3) (ls' := [some (rf m), some (vl ((31 * ((31 * ((31 * v6) + (Int64.ofInt bs))) + ((shr (lA L)).toInt64))) + (Int64.ofInt (mI h1 m 5)))), none, some (vi 0), none, none, none]) (hi := rfl) (hd := dX6_digest_436) (by decide) rfl rfl (pc' := 437) rfl ?_
                                          have L437 : ∀ (n437 : Nat) (v7 : Int64) (k9 : Int), (lTn L - k9).toNat < n437 → (0 ≤ k9 ∧ k9 ≤ lTn L ∧ v7 = itF (fun k => tkV (lTg L k)) (tkV (lTn L) (31 * tkV (bst (lA L)) v6 + (shr (lA L)).toInt64)) k9.toNat) → X Ω RX6 cX6_digest 7 (some .long) false rm_X6_digest PR xNo 0 0 437 [some (rf m), some (vl v7), none, some (vi k9), none, none, none] [] h1 := by
                                            intro n437
                                            induction n437 with
                                            | zero => intro v7 k9 hm _; exfalso; omega
                                            | succ n437 ih437 =>
                                              intro v7 k9 hm437 hinv
                                              obtain ⟨hq0, hq9, hv7⟩ := hinv
                                              refine X.iload_n (i := 3) rfl rfl dX6_digest_437 (pc' := 438) rfl ?_
                                              refine X.aload_n (i := 0) rfl rfl dX6_digest_438 (pc' := 439) rfl ?_
                                              refine X.getI (x := mI h1 m 5) fk_X6_75 xcl_6 dX6_digest_439 (by decide) hL2.1.1 rfl (pc' := 442) rfl (fun r41 => ?_)
                                              obtain ⟨r41a, r41b⟩ := r41
                                              refine X.icmp_ge (tgt := 465) dX6_digest_442 ⟨by omega, by omega⟩ ⟨by omega, by omega⟩ (by decide) (pc' := 445) rfl (fun c442 => ?_) (fun c442 => ?_)
                                              · refine X.lload_n (i := 1) rfl rfl dX6_digest_465 (pc' := 466) rfl ?_
                                                refine X.lret dX6_digest_466 rfl (Nat.le_of_ble_eq_true rfl) (Nat.le_of_ble_eq_true rfl) ?_
                                                subst hPR
                                                have e1 : v1 = dgA L 3853 := by rw [hv1, show k = 10 by omega]; rfl
                                                have e2 : v2 = dgS (lA L) v1 := by rw [hv2, show s = 6 by omega]; rfl
                                                have e3 : v3 = dgW (lA L) v2 := by
                                                  rw [hv3, show (aW (lA L) - 1 - n).toNat = (lstN (aW (lA L)) 12).toNat by unfold lstN; split <;> omega]
                                                  rfl
                                                have e4 : v4 = dgB (lA L) v3 := by
                                                  rw [hv4, show (aB (lA L) - 1 - bt).toNat = (lstN (aB (lA L)) 8).toNat by unfold lstN; split <;> omega]
                                                  rfl
                                                have e5 : v5 = dgM (lA L) v4 := by rw [hv5, show f = 6 by omega]; rfl
                                                have e6 : v6 = dgL (lA L) v5 := by rw [hv6, show t = 6 by omega]; rfl
                                                refine ⟨hF2, ?_, hT0, hL2⟩
                                                rw [hv7, show k9 = lTn L by omega, e6, e5, e4, e3, e2, e1]
                                                rfl
                                              · refine X.ldc2 (v := 31) wd_1012 dX6_digest_445 (pc' := 448) rfl ?_
                                                refine X.lload_n (i := 1) rfl rfl dX6_digest_448 (pc' := 449) rfl ?_
                                                refine X.lmul dX6_digest_449 (pc' := 450) rfl ?_
                                                refine X.aload_n (i := 0) rfl rfl dX6_digest_450 (pc' := 451) rfl ?_
                                                refine X.getR fk_X6_14 xcl_6 dX6_digest_451 hL2.1.1 hL2.1.2.2.2.1 (pc' := 454) rfl ?_
                                                refine X.iload_n (i := 3) rfl rfl dX6_digest_454 (pc' := 455) rfl ?_
                                                refine X.cald (x := lTg L k9) dX6_digest_455 hL2.1.2.2.2.2.1 (by omega) (by omega) ⟨by omega, by omega⟩ (mI_at (hL2.2.2.2.2.2.2.2.1 k9 (by omega) (by omega)) (by omega)) (pc' := 456) rfl (fun r42 => ?_)
                                                obtain ⟨r42a, r42b⟩ := r42
                                                have r42c := (hO.2.2.2.2.2 k9 (by omega) (by omega))
                                                refine X.i2l ⟨by omega, by omega⟩ dX6_digest_456 (pc' := 457) rfl ?_
                                                refine X.ladd dX6_digest_457 (pc' := 458) rfl ?_
                                                refine X.lstore_n (i := 1) (ls' := [some (rf m), some (vl ((31 * v7) + (Int64.ofInt (lTg L k9)))), none, some (vi k9), none, none, none]) (hi := rfl) (hd := dX6_digest_458) (by decide) rfl rfl (pc' := 459) rfl ?_
                                                refine X.iinc (i := 3) (ls' := [some (rf m), some (vl ((31 * v7) + (Int64.ofInt (lTg L k9)))), none, some (vi (k9 + 1)), none, none, none]) dX6_digest_459 rfl (by decide) rfl rfl (pc' := 462) rfl ?_
                                                refine X.goto (tgt := 437) dX6_digest_462 (by decide) ?_
                                                refine ih437 ((31 * v7) + (Int64.ofInt (lTg L k9))) (k9 + 1) (by omega) ?_
                                                exact ⟨by omega, by omega, by rw [itF_at hq0, ← hv7]; rfl⟩
                                          refine L437 _ ((31 * ((31 * ((31 * v6) + (Int64.ofInt bs))) + ((shr (lA L)).toInt64))) + (Int64.ofInt (mI h1 m 5))) 0 (Nat.lt_succ_self _) ?_
                                          exact ⟨by omega, by omega, by rw [hbs, hTn2]; rfl⟩
                                        · refine X.ldc2 (v := 31) wd_1012 dX6_digest_370 (pc' := 373) rfl ?_
                                          refine X.lload_n (i := 1) rfl rfl dX6_digest_373 (pc' := 374) rfl ?_
                                          refine X.lmul dX6_digest_374 (pc' := 375) rfl ?_
                                          refine X.aload_n (i := 0) rfl rfl dX6_digest_375 (pc' := 376) rfl ?_
                                          refine X.aload_n (i := 0) rfl rfl dX6_digest_376 (pc' := 377) rfl ?_
                                          refine X.getR fk_X6_8 xcl_6 dX6_digest_377 hL2.1.1 hL2.1.2.1 (pc' := 380) rfl ?_
                                          refine X.iconst dX6_digest_380 (pc' := 381) rfl ?_
                                          refine X.iald (x := aW (lA L)) dX6_digest_381 hL2.1.2.2.1 (by omega) (by omega) ⟨by omega, by omega⟩ (mI_at hL2.2.1.2.2.1 (by omega)) (pc' := 382) rfl (fun r43 => ?_)
                                          obtain ⟨r43a, r43b⟩ := r43
                                          refine X.iconst dX6_digest_382 (pc' := 383) rfl ?_
                                          refine X.isub dX6_digest_383 (pc' := 384) rfl ?_
                                          refine X.iload_n (i := 3) rfl rfl dX6_digest_384 (pc' := 385) rfl ?_
                                          refine X.callV (ci := 6) (a := m) (rm := rm_X6_silentBeats) (As := [vi ((aW (lA L)) - 1), vi t]) (st := [vl (31 * v6)]) dX6_digest_385 ck_X6_173 rfl (by decide) hL2.1.1 rfl rfl ⟨Nat.le_of_ble_eq_true rfl, Nat.le_of_ble_eq_true rfl⟩ (Nat.le_of_ble_eq_true rfl) (Nat.le_of_ble_eq_true rfl) (Nat.le_of_ble_eq_true rfl) (pc' := 388) rfl (k_X6_silentBeats hL2.1 hL2.2.1 hA ⟨by omega, by omega⟩ ⟨by omega, by omega⟩) (fun q44 hq44 eq44 => ?_) (fun _ _ x1 => x1.elim)
                                          obtain ⟨rfl, r, rfl, hr⟩ := eq44
                                          have hr9 : r = dsl (lA L) t := by
                                            rw [hr]
                                            unfold dsl
                                            split <;> split <;> first | rfl | omega
                                          have hrr : -1 ≤ dsl (lA L) t ∧ dsl (lA L) t ≤ 60 := by
                                            have := sil_rng (lA L) (aW (lA L) - 1) t
                                            unfold dsl
                                            split <;> omega
                                          refine X.i2l ⟨by omega, by omega⟩ dX6_digest_388 (pc' := 389) rfl ?_
                                          refine X.ladd dX6_digest_389 (pc' := 390) rfl ?_
                                          refine X.lstore_n (i := 1) (ls' := [some (rf m), some (vl ((31 * v6) + (Int64.ofInt r))), none, some (vi t), none, none, none]) (hi := rfl) (hd := dX6_digest_390) (by decide) rfl rfl (pc' := 391) rfl ?_
                                          refine X.iinc (i := 3) (ls' := [some (rf m), some (vl ((31 * v6) + (Int64.ofInt r))), none, some (vi (t + 1)), none, none, none]) dX6_digest_391 rfl (by decide) rfl rfl (pc' := 394) rfl ?_
                                          refine X.goto (tgt := 364) dX6_digest_394 (by decide) ?_
                                          refine ih364 ((31 * v6) + (Int64.ofInt r)) (t + 1) (by omega) ?_
                                          exact ⟨by omega, by omega, by rw [itF_at ht0, ← hv6, hr9]; rfl⟩
                                    refine L364 _ v5 0 (Nat.lt_succ_self _) ?_
                                    exact ⟨by omega, by omega, rfl⟩
                                  · refine X.iconst dX6_digest_297 (pc' := 298) rfl ?_
                                    refine X.istore (i := 4) (ls' := [some (rf m), some (vl v5), none, some (vi f), some (vi 0), none, none]) (hd := dX6_digest_298) (by decide) rfl rfl (pc' := 300) rfl ?_
                                    have L300 : ∀ (n300 : Nat) (z5 : Int64) (u : Int), (10 - u).toNat < n300 → (0 ≤ u ∧ u ≤ 10 ∧ z5 = itF (dmF (lA L) f) v5 u.toNat) → X Ω RX6 cX6_digest 7 (some .long) false rm_X6_digest PR xNo 0 0 300 [some (rf m), some (vl z5), none, some (vi f), some (vi u), none, none] [] h1 := by
                                      intro n300
                                      induction n300 with
                                      | zero => intro z5 u hm _; exfalso; omega
                                      | succ n300 ih300 =>
                                        intro z5 u hm300 hinv
                                        obtain ⟨hu0, hu9, hz5⟩ := hinv
                                        refine X.iload (i := 4) rfl dX6_digest_300 (pc' := 302) rfl ?_
                                        refine X.bipush (by decide +kernel) dX6_digest_302 (pc' := 304) rfl ?_
                                        refine X.icmp_ge (tgt := 356) dX6_digest_304 ⟨by omega, by omega⟩ ⟨by omega, by omega⟩ (by decide) (pc' := 307) rfl (fun c304 => ?_) (fun c304 => ?_)
                                        · refine X.iinc (i := 3) (ls' := [some (rf m), some (vl z5), none, some (vi (f + 1)), some (vi u), none, none]) dX6_digest_356 rfl (by decide) rfl rfl (pc' := 359) rfl ?_
                                          refine X.goto (tgt := 291) dX6_digest_359 (by decide) ?_
                                          refine X.mask (bs := [true, true, false, true, false, false, false]) (ls' := [some (rf m), some (vl z5), none, some (vi (f + 1)), none, none, none]) rfl ?_
                                          refine ih291 z5 (f + 1) (by omega) ?_
                                          exact ⟨by omega, by omega, by rw [itF_at hf0, ← hv5, hz5, show u = 10 by omega]; rfl⟩
                                        · refine X.iconst dX6_digest_307 (pc' := 308) rfl ?_
                                          refine X.istore (i := 5) (ls' := [some (rf m), some (vl z5), none, some (vi f), some (vi u), some (vi 0), none]) (hd := dX6_digest_308) (by decide) rfl rfl (pc' := 310) rfl ?_
                                          refine X.iconst dX6_digest_310 (pc' := 311) rfl ?_
                                          refine X.istore (i := 6) (ls' := [some (rf m), some (vl z5), none, some (vi f), some (vi u), some (vi 0), some (vi 0)]) (hd := dX6_digest_311) (by decide) rfl rfl (pc' := 313) rfl ?_
                                          have L313 : ∀ (n313 : Nat) (c : Int) (t : Int), (6 - t).toNat < n313 → (0 ≤ t ∧ t ≤ 6 ∧ c = smF (how (lA L) f u) t.toNat) → X Ω RX6 cX6_digest 7 (some .long) false rm_X6_digest PR xNo 0 0 313 [some (rf m), some (vl z5), none, some (vi f), some (vi u), some (vi c), some (vi t)] [] h1 := by
                                            intro n313
                                            induction n313 with
                                            | zero => intro c t hm _; exfalso; omega
                                            | succ n313 ih313 =>
                                              intro c t hm313 hinv
                                              obtain ⟨ht0, ht6, hc⟩ := hinv
                                              have hsm := smF_how (lA L) f u t.toNat
                                              refine X.iload (i := 6) rfl dX6_digest_313 (pc' := 315) rfl ?_
                                              refine X.bipush (by decide +kernel) dX6_digest_315 (pc' := 317) rfl ?_
                                              refine X.icmp_ge (tgt := 340) dX6_digest_317 ⟨by omega, by omega⟩ ⟨by omega, by omega⟩ (by decide) (pc' := 320) rfl (fun c317 => ?_) (fun c317 => ?_)
                                              · refine X.ldc2 (v := 31) wd_1012 dX6_digest_340 (pc' := 343) rfl ?_
                                                refine X.lload_n (i := 1) rfl rfl dX6_digest_343 (pc' := 344) rfl ?_
                                                refine X.lmul dX6_digest_344 (pc' := 345) rfl ?_
                                                refine X.iload (i := 5) rfl dX6_digest_345 (pc' := 347) rfl ?_
                                                refine X.i2l ⟨by omega, by omega⟩ dX6_digest_347 (pc' := 348) rfl ?_
                                                refine X.ladd dX6_digest_348 (pc' := 349) rfl ?_
                                                refine X.lstore_n (i := 1) (ls' := [some (rf m), some (vl ((31 * z5) + (Int64.ofInt c))), none, some (vi f), some (vi u), some (vi c), some (vi t)]) (hi := rfl) (hd := dX6_digest_349) (by decide) rfl rfl (pc' := 350) rfl ?_
                                                refine X.iinc (i := 4) (ls' := [some (rf m), some (vl ((31 * z5) + (Int64.ofInt c))), none, some (vi f), some (vi (u + 1)), some (vi c), some (vi t)]) dX6_digest_350 rfl (by decide) rfl rfl (pc' := 353) rfl ?_
                                                refine X.goto (tgt := 300) dX6_digest_353 (by decide) ?_
                                                refine X.mask (bs := [true, true, false, true, true, false, false]) (ls' := [some (rf m), some (vl ((31 * z5) + (Int64.ofInt c))), none, some (vi f), some (vi (u + 1)), none, none]) rfl ?_
                                                refine ih300 ((31 * z5) + (Int64.ofInt c)) (u + 1) (by omega) ?_
                                                exact ⟨by omega, by omega, by rw [itF_at hu0, ← hz5, hc, show t = 6 by omega]; rfl⟩
                                              · refine X.iload (i := 5) rfl dX6_digest_320 (pc' := 322) rfl ?_
                                                refine X.aload_n (i := 0) rfl rfl dX6_digest_322 (pc' := 323) rfl ?_
                                                refine X.iload_n (i := 3) rfl rfl dX6_digest_323 (pc' := 324) rfl ?_
                                                refine X.iload (i := 4) rfl dX6_digest_324 (pc' := 326) rfl ?_
                                                refine X.iload (i := 6) rfl dX6_digest_326 (pc' := 328) rfl ?_
                                                refine X.callV (ci := 6) (a := m) (rm := rm_X6_how) (As := [vi f, vi u, vi t]) (st := [vi c]) dX6_digest_328 ck_X6_157 rfl (by decide) hL2.1.1 rfl rfl ⟨Nat.le_of_ble_eq_true rfl, Nat.le_of_ble_eq_true rfl⟩ (Nat.le_of_ble_eq_true rfl) (Nat.le_of_ble_eq_true rfl) (Nat.le_of_ble_eq_true rfl) (pc' := 331) rfl (k_X6_how hL2.1 hL2.2.1 hA ⟨by omega, by omega⟩ ⟨by omega, by omega⟩ ⟨by omega, by omega⟩) (fun q45 hq45 eq45 => ?_) (fun _ _ x1 => x1.elim)
                                                obtain ⟨rfl, y, rfl, hy⟩ := eq45
                                                have hyr := how_rng (lA L) f u t
                                                refine X.iadd dX6_digest_331 (pc' := 332) rfl ?_
                                                refine X.gen (fun c2 hc2 => ?_)
                                                refine X.istore (i := 5) (ls' := [some (rf m), some (vl z5), none, some (vi f), some (vi u), some (vi c2), some (vi t)]) (hd := dX6_digest_332) (by decide) rfl rfl (pc' := 334) rfl ?_
                                                refine X.iinc (i := 6) (ls' := [some (rf m), some (vl z5), none, some (vi f), some (vi u), some (vi c2), some (vi (t + 1))]) dX6_digest_334 rfl (by decide) rfl rfl (pc' := 337) rfl ?_
                                                refine X.goto (tgt := 313) dX6_digest_337 (by decide) ?_
                                                refine ih313 c2 (t + 1) (by omega) ?_
                                                exact ⟨by omega, by omega, by rw [smF_at ht0, ← hc, ← hy]; omega⟩
                                          refine L313 _ 0 0 (Nat.lt_succ_self _) ?_
                                          exact ⟨by omega, by omega, rfl⟩
                                    refine L300 _ v5 0 (Nat.lt_succ_self _) ?_
                                    exact ⟨by omega, by omega, rfl⟩
                              refine L291 _ v4 0 (Nat.lt_succ_self _) ?_
                              exact ⟨by omega, by omega, rfl⟩
                            · refine X.iconst dX6_digest_235 (pc' := 236) rfl ?_
                              refine X.istore (i := 4) (ls' := [some (rf m), some (vl v4), none, some (vi bt), some (vi 0), none, none]) (hd := dX6_digest_236) (by decide) rfl rfl (pc' := 238) rfl ?_
                              have L238 : ∀ (n238 : Nat) (z4 : Int64) (t : Int), (6 - t).toNat < n238 → (0 ≤ t ∧ t ≤ 6 ∧ z4 = itF (dbS (lA L) bt) v4 t.toNat) → X Ω RX6 cX6_digest 7 (some .long) false rm_X6_digest PR xNo 0 0 238 [some (rf m), some (vl z4), none, some (vi bt), some (vi t), none, none] [] h1 := by
                                intro n238
                                induction n238 with
                                | zero => intro z4 t hm _; exfalso; omega
                                | succ n238 ih238 =>
                                  intro z4 t hm238 hinv
                                  obtain ⟨ht0, ht6, hz4⟩ := hinv
                                  refine X.iload (i := 4) rfl dX6_digest_238 (pc' := 240) rfl ?_
                                  refine X.bipush (by decide +kernel) dX6_digest_240 (pc' := 242) rfl ?_
                                  refine X.icmp_ge (tgt := 283) dX6_digest_242 ⟨by omega, by omega⟩ ⟨by omega, by omega⟩ (by decide) (pc' := 245) rfl (fun c242 => ?_) (fun c242 => ?_)
                                  · refine X.iinc (i := 3) (ls' := [some (rf m), some (vl z4), none, some (vi (bt + (-1))), some (vi t), none, none]) dX6_digest_283 rfl (by decide) rfl rfl (pc' := 286) rfl ?_
                                    refine X.goto (tgt := 218) dX6_digest_286 (by decide) ?_
                                    refine X.mask (bs := [true, true, false, true, false, false, false]) (ls' := [some (rf m), some (vl z4), none, some (vi (bt + (-1))), none, none, none]) rfl ?_
                                    refine ih218 z4 (bt + (-1)) (by omega) ?_
                                    refine ⟨by omega, by omega, by omega, ?_⟩
                                    rw [show aB (lA L) - 1 - (bt + -1) = aB (lA L) - 1 - bt + 1 by omega, itF_at (by omega), ← hv4]
                                    show _ = dbB (lA L) (aB (lA L) - 1 - (aB (lA L) - 1 - bt)) v4
                                    rw [show aB (lA L) - 1 - (aB (lA L) - 1 - bt) = bt by omega, hz4, show t = 6 by omega]
                                    rfl
                                  · refine X.iconst dX6_digest_245 (pc' := 246) rfl ?_
                                    refine X.istore (i := 5) (ls' := [some (rf m), some (vl z4), none, some (vi bt), some (vi t), some (vi 0), none]) (hd := dX6_digest_246) (by decide) rfl rfl (pc' := 248) rfl ?_
                                    have L248 : ∀ (n248 : Nat) (y4 : Int64) (w : Int), (3 - w).toNat < n248 → (0 ≤ w ∧ w ≤ 3 ∧ y4 = itF (fun k => tkV (oBt (lA L) t bt k)) z4 w.toNat) → X Ω RX6 cX6_digest 7 (some .long) false rm_X6_digest PR xNo 0 0 248 [some (rf m), some (vl y4), none, some (vi bt), some (vi t), some (vi w), none] [] h1 := by
                                      intro n248
                                      induction n248 with
                                      | zero => intro y4 w hm _; exfalso; omega
                                      | succ n248 ih248 =>
                                        intro y4 w hm248 hinv
                                        obtain ⟨hw0, hw3, hy4⟩ := hinv
                                        refine X.iload (i := 5) rfl dX6_digest_248 (pc' := 250) rfl ?_
                                        refine X.iconst dX6_digest_250 (pc' := 251) rfl ?_
                                        refine X.icmp_ge (tgt := 277) dX6_digest_251 ⟨by omega, by omega⟩ ⟨by omega, by omega⟩ (by decide) (pc' := 254) rfl (fun c251 => ?_) (fun c251 => ?_)
                                        · refine X.iinc (i := 4) (ls' := [some (rf m), some (vl y4), none, some (vi bt), some (vi (t + 1)), some (vi w), none]) dX6_digest_277 rfl (by decide) rfl rfl (pc' := 280) rfl ?_
                                          refine X.goto (tgt := 238) dX6_digest_280 (by decide) ?_
                                          refine X.mask (bs := [true, true, false, true, true, false, false]) (ls' := [some (rf m), some (vl y4), none, some (vi bt), some (vi (t + 1)), none, none]) rfl ?_
                                          refine ih238 y4 (t + 1) (by omega) ?_
                                          exact ⟨by omega, by omega, by rw [itF_at ht0, ← hz4, hy4, show w = 3 by omega]; rfl⟩
                                        · refine X.ldc2 (v := 31) wd_1012 dX6_digest_254 (pc' := 257) rfl ?_
                                          refine X.lload_n (i := 1) rfl rfl dX6_digest_257 (pc' := 258) rfl ?_
                                          refine X.lmul dX6_digest_258 (pc' := 259) rfl ?_
                                          refine X.aload_n (i := 0) rfl rfl dX6_digest_259 (pc' := 260) rfl ?_
                                          refine X.iload (i := 4) rfl dX6_digest_260 (pc' := 262) rfl ?_
                                          refine X.iload_n (i := 3) rfl rfl dX6_digest_262 (pc' := 263) rfl ?_
                                          refine X.iload (i := 5) rfl dX6_digest_263 (pc' := 265) rfl ?_
                                          refine X.callV (ci := 6) (a := m) (rm := rm_X6_ofHeard) (As := [vi t, vi bt, vi w]) (st := [vl (31 * y4)]) dX6_digest_265 ck_X6_138 rfl (by decide) hL2.1.1 rfl rfl ⟨Nat.le_of_ble_eq_true rfl, Nat.le_of_ble_eq_true rfl⟩ (Nat.le_of_ble_eq_true rfl) (Nat.le_of_ble_eq_true rfl) (Nat.le_of_ble_eq_true rfl) (pc' := 268) rfl (k_X6_ofHeard hL2.1 hL2.2.1 hA ⟨by omega, by omega⟩ ⟨by omega, by omega⟩ ⟨by omega, by omega⟩) (fun q46 hq46 eq46 => ?_) (fun _ _ x1 => x1.elim)
                                          obtain ⟨rfl, r, rfl, hr⟩ := eq46
                                          rw [if_pos (by omega)] at hr
                                          have hrr := oBt_rng hA (s := t) (k := bt) (w := w) ⟨by omega, by omega⟩ ⟨by omega, by omega⟩
                                          refine X.i2l ⟨by omega, by omega⟩ dX6_digest_268 (pc' := 269) rfl ?_
                                          refine X.ladd dX6_digest_269 (pc' := 270) rfl ?_
                                          refine X.lstore_n (i := 1) (ls' := [some (rf m), some (vl ((31 * y4) + (Int64.ofInt r))), none, some (vi bt), some (vi t), some (vi w), none]) (hi := rfl) (hd := dX6_digest_270) (by decide) rfl rfl (pc' := 271) rfl ?_
                                          refine X.iinc (i := 5) (ls' := [some (rf m), some (vl ((31 * y4) + (Int64.ofInt r))), none, some (vi bt), some (vi t), some (vi (w + 1)), none]) dX6_digest_271 rfl (by decide) rfl rfl (pc' := 274) rfl ?_
                                          refine X.goto (tgt := 248) dX6_digest_274 (by decide) ?_
                                          refine ih248 ((31 * y4) + (Int64.ofInt r)) (w + 1) (by omega) ?_
                                          exact ⟨by omega, by omega, by rw [itF_at hw0, ← hy4, hr]; rfl⟩
                                    refine L248 _ z4 0 (Nat.lt_succ_self _) ?_
                                    exact ⟨by omega, by omega, rfl⟩
                              refine L238 _ v4 0 (Nat.lt_succ_self _) ?_
                              exact ⟨by omega, by omega, rfl⟩
                      refine L218 _ v3 b0 (Nat.lt_succ_self _) ?_
                      exact ⟨by omega, by omega, by omega, by rw [show (aB (lA L) - 1 - b0).toNat = 0 by omega]; rfl⟩
                    · refine X.iconst dX6_digest_126 (pc' := 127) rfl ?_
                      refine X.istore (i := 4) (ls' := [some (rf m), some (vl v3), none, some (vi n), some (vi 0), none, none]) (hd := dX6_digest_127) (by decide) rfl rfl (pc' := 129) rfl ?_
                      have L129 : ∀ (n129 : Nat) (z3 : Int64) (w : Int), (6 - w).toNat < n129 → (0 ≤ w ∧ w ≤ 6 ∧ z3 = itF (fun k => tkV (oWd (lA L) n k)) v3 w.toNat) → X Ω RX6 cX6_digest 7 (some .long) false rm_X6_digest PR xNo 0 0 129 [some (rf m), some (vl z3), none, some (vi n), some (vi w), none, none] [] h1 := by
                        intro n129
                        induction n129 with
                        | zero => intro z3 w hm _; exfalso; omega
                        | succ n129 ih129 =>
                          intro z3 w hm129 hinv
                          obtain ⟨hw0, hw6, hz3⟩ := hinv
                          refine X.iload (i := 4) rfl dX6_digest_129 (pc' := 131) rfl ?_
                          refine X.bipush (by decide +kernel) dX6_digest_131 (pc' := 133) rfl ?_
                          refine X.icmp_ge (tgt := 157) dX6_digest_133 ⟨by omega, by omega⟩ ⟨by omega, by omega⟩ (by decide) (pc' := 136) rfl (fun c133 => ?_) (fun c133 => ?_)
                          · refine X.iconst dX6_digest_157 (pc' := 158) rfl ?_
                            refine X.istore (i := 4) (ls' := [some (rf m), some (vl z3), none, some (vi n), some (vi 0), none, none]) (hd := dX6_digest_158) (by decide) rfl rfl (pc' := 160) rfl ?_
                            have L160 : ∀ (n160 : Nat) (y3 : Int64) (t : Int), (6 - t).toNat < n160 → (0 ≤ t ∧ t ≤ 6 ∧ y3 = itF (dwS (lA L) n) z3 t.toNat) → X Ω RX6 cX6_digest 7 (some .long) false rm_X6_digest PR xNo 0 0 160 [some (rf m), some (vl y3), none, some (vi n), some (vi t), none, none] [] h1 := by
                              intro n160
                              induction n160 with
                              | zero => intro y3 t hm _; exfalso; omega
                              | succ n160 ih160 =>
                                intro y3 t hm160 hinv
                                obtain ⟨ht0, ht6, hy3⟩ := hinv
                                refine X.iload (i := 4) rfl dX6_digest_160 (pc' := 162) rfl ?_
                                refine X.bipush (by decide +kernel) dX6_digest_162 (pc' := 164) rfl ?_
                                refine X.icmp_ge (tgt := 203) dX6_digest_164 ⟨by omega, by omega⟩ ⟨by omega, by omega⟩ (by decide) (pc' := 167) rfl (fun c164 => ?_) (fun c164 => ?_)
                                · refine X.iinc (i := 3) (ls' := [some (rf m), some (vl y3), none, some (vi (n + (-1))), some (vi t), none, none]) dX6_digest_203 rfl (by decide) rfl rfl (pc' := 206) rfl ?_
                                  refine X.goto (tgt := 109) dX6_digest_206 (by decide) ?_
                                  refine X.mask (bs := [true, true, false, true, false, false, false]) (ls' := [some (rf m), some (vl y3), none, some (vi (n + (-1))), none, none, none]) rfl ?_
                                  refine ih109 y3 (n + (-1)) (by omega) ?_
                                  refine ⟨by omega, by omega, by omega, ?_⟩
                                  rw [show aW (lA L) - 1 - (n + -1) = aW (lA L) - 1 - n + 1 by omega, itF_at (by omega), ← hv3]
                                  show _ = dwW (lA L) (aW (lA L) - 1 - (aW (lA L) - 1 - n)) v3
                                  rw [show aW (lA L) - 1 - (aW (lA L) - 1 - n) = n by omega, hy3, hz3, show t = 6 by omega, show w = 6 by omega]
                                  rfl
                                · refine X.ldc2 (v := 31) wd_1012 dX6_digest_167 (pc' := 170) rfl ?_
                                  refine X.lload_n (i := 1) rfl rfl dX6_digest_170 (pc' := 171) rfl ?_
                                  refine X.lmul dX6_digest_171 (pc' := 172) rfl ?_
                                  refine X.aload_n (i := 0) rfl rfl dX6_digest_172 (pc' := 173) rfl ?_
                                  refine X.iload_n (i := 3) rfl rfl dX6_digest_173 (pc' := 174) rfl ?_
                                  refine X.iload (i := 4) rfl dX6_digest_174 (pc' := 176) rfl ?_
                                  refine X.callV (ci := 6) (a := m) (rm := rm_X6_comesTo) (As := [vi n, vi t]) (st := [vl (31 * y3)]) dX6_digest_176 ck_X6_132 rfl (by decide) hL2.1.1 rfl rfl ⟨Nat.le_of_ble_eq_true rfl, Nat.le_of_ble_eq_true rfl⟩ (Nat.le_of_ble_eq_true rfl) (Nat.le_of_ble_eq_true rfl) (Nat.le_of_ble_eq_true rfl) (pc' := 179) rfl (k_X6_comesTo hL2.1 hL2.2.1 hA ⟨by omega, by omega⟩ ⟨by omega, by omega⟩) (fun q47 hq47 eq47 => ?_) (fun _ _ x1 => x1.elim)
                                  obtain ⟨rfl, r, rfl, hr⟩ := eq47
                                  rw [if_pos (by omega)] at hr
                                  have hrr := okC t n (by omega) (by omega) (by omega) (by omega)
                                  have hrn := okW n (by omega) (by omega)
                                  refine X.i2l ⟨by omega, by omega⟩ dX6_digest_179 (pc' := 180) rfl ?_
                                  refine X.ladd dX6_digest_180 (pc' := 181) rfl ?_
                                  refine X.lstore_n (i := 1) (ls' := [some (rf m), some (vl ((31 * y3) + (Int64.ofInt r))), none, some (vi n), some (vi t), none, none]) (hi := rfl) (hd := dX6_digest_181) (by decide) rfl rfl (pc' := 182) rfl ?_
                                  refine X.ldc2 (v := 31) wd_1012 dX6_digest_182 (pc' := 185) rfl ?_
                                  refine X.lload_n (i := 1) rfl rfl dX6_digest_185 (pc' := 186) rfl ?_
                                  refine X.lmul dX6_digest_186 (pc' := 187) rfl ?_
                                  refine X.aload_n (i := 0) rfl rfl dX6_digest_187 (pc' := 188) rfl ?_
                                  refine X.iload_n (i := 3) rfl rfl dX6_digest_188 (pc' := 189) rfl ?_
                                  refine X.iload (i := 4) rfl dX6_digest_189 (pc' := 191) rfl ?_
                                  refine X.callV (ci := 6) (a := m) (rm := rm_X6_reason) (As := [vi n, vi t]) (st := [vl (31 * ((31 * y3) + (Int64.ofInt r)))]) dX6_digest_191 ck_X6_170 rfl (by decide) hL2.1.1 rfl rfl ⟨Nat.le_of_ble_eq_true rfl, Nat.le_of_ble_eq_true rfl⟩ (Nat.le_of_ble_eq_true rfl) (Nat.le_of_ble_eq_true rfl) (Nat.le_of_ble_eq_true rfl) (pc' := 194) rfl (k_X6_reason hL2.1 hL2.2.1 hA ⟨by omega, by omega⟩ ⟨by omega, by omega⟩) (fun q48 hq48 eq48 => ?_) (fun _ _ x1 => x1.elim)
                                  obtain ⟨rfl, u, rfl, hu⟩ := eq48
                                  rw [if_pos (by omega)] at hu
                                  have hur := why_rng (lA L) n t
                                  refine X.i2l ⟨by omega, by omega⟩ dX6_digest_194 (pc' := 195) rfl ?_
                                  refine X.ladd dX6_digest_195 (pc' := 196) rfl ?_
                                  refine X.lstore_n (i := 1) (ls' := [some (rf m), some (vl ((31 * ((31 * y3) + (Int64.ofInt r))) + (Int64.ofInt u))), none, some (vi n), some (vi t), none, none]) (hi := rfl) (hd := dX6_digest_196) (by decide) rfl rfl (pc' := 197) rfl ?_
                                  refine X.iinc (i := 4) (ls' := [some (rf m), some (vl ((31 * ((31 * y3) + (Int64.ofInt r))) + (Int64.ofInt u))), none, some (vi n), some (vi (t + 1)), none, none]) dX6_digest_197 rfl (by decide) rfl rfl (pc' := 200) rfl ?_
                                  refine X.goto (tgt := 160) dX6_digest_200 (by decide) ?_
                                  refine ih160 ((31 * ((31 * y3) + (Int64.ofInt r))) + (Int64.ofInt u)) (t + 1) (by omega) ?_
                                  exact ⟨by omega, by omega, by rw [itF_at ht0, ← hy3, hr, hu]; rfl⟩
                            refine L160 _ z3 0 (Nat.lt_succ_self _) ?_
                            exact ⟨by omega, by omega, rfl⟩
                          · refine X.ldc2 (v := 31) wd_1012 dX6_digest_136 (pc' := 139) rfl ?_
                            refine X.lload_n (i := 1) rfl rfl dX6_digest_139 (pc' := 140) rfl ?_
                            refine X.lmul dX6_digest_140 (pc' := 141) rfl ?_
                            refine X.aload_n (i := 0) rfl rfl dX6_digest_141 (pc' := 142) rfl ?_
                            refine X.iload_n (i := 3) rfl rfl dX6_digest_142 (pc' := 143) rfl ?_
                            refine X.iload (i := 4) rfl dX6_digest_143 (pc' := 145) rfl ?_
                            refine X.callV (ci := 6) (a := m) (rm := rm_X6_ofWord) (As := [vi n, vi w]) (st := [vl (31 * z3)]) dX6_digest_145 ck_X6_129 rfl (by decide) hL2.1.1 rfl rfl ⟨Nat.le_of_ble_eq_true rfl, Nat.le_of_ble_eq_true rfl⟩ (Nat.le_of_ble_eq_true rfl) (Nat.le_of_ble_eq_true rfl) (Nat.le_of_ble_eq_true rfl) (pc' := 148) rfl (k_X6_ofWord hL2.1 hL2.2.1 hA ⟨by omega, by omega⟩ ⟨by omega, by omega⟩) (fun q49 hq49 eq49 => ?_) (fun _ _ x1 => x1.elim)
                            obtain ⟨rfl, r, rfl, hr⟩ := eq49
                            rw [if_pos (by omega)] at hr
                            have hrr := oWd_rng hA (n := n) (w := w) ⟨by omega, by omega⟩
                            refine X.i2l ⟨by omega, by omega⟩ dX6_digest_148 (pc' := 149) rfl ?_
                            refine X.ladd dX6_digest_149 (pc' := 150) rfl ?_
                            refine X.lstore_n (i := 1) (ls' := [some (rf m), some (vl ((31 * z3) + (Int64.ofInt r))), none, some (vi n), some (vi w), none, none]) (hi := rfl) (hd := dX6_digest_150) (by decide) rfl rfl (pc' := 151) rfl ?_
                            refine X.iinc (i := 4) (ls' := [some (rf m), some (vl ((31 * z3) + (Int64.ofInt r))), none, some (vi n), some (vi (w + 1)), none, none]) dX6_digest_151 rfl (by decide) rfl rfl (pc' := 154) rfl ?_
                            refine X.goto (tgt := 129) dX6_digest_154 (by decide) ?_
                            refine ih129 ((31 * z3) + (Int64.ofInt r)) (w + 1) (by omega) ?_
                            exact ⟨by omega, by omega, by rw [itF_at hw0, ← hz3, hr]; rfl⟩
                      refine L129 _ v3 0 (Nat.lt_succ_self _) ?_
                      exact ⟨by omega, by omega, rfl⟩
              refine L109 _ v2 n0 (Nat.lt_succ_self _) ?_
              exact ⟨by omega, by omega, by omega, by rw [show (aW (lA L) - 1 - n0).toNat = 0 by omega]; rfl⟩
            · refine X.iconst dX6_digest_44 (pc' := 45) rfl ?_
              refine X.istore (i := 4) (ls' := [some (rf m), some (vl v2), none, some (vi s), some (vi 0), none, none]) (hd := dX6_digest_45) (by decide) rfl rfl (pc' := 47) rfl ?_
              have L47 : ∀ (n47 : Nat) (z2 : Int64) (w : Int), (8 - w).toNat < n47 → (0 ≤ w ∧ w ≤ 8 ∧ z2 = itF (fun k => tkV (oSp (lA L) s k)) v2 w.toNat) → X Ω RX6 cX6_digest 7 (some .long) false rm_X6_digest PR xNo 0 0 47 [some (rf m), some (vl z2), none, some (vi s), some (vi w), none, none] [] h1 := by
                intro n47
                induction n47 with
                | zero => intro z2 w hm _; exfalso; omega
                | succ n47 ih47 =>
                  intro z2 w hm47 hinv
                  obtain ⟨hw0, hw8, hz2⟩ := hinv
                  refine X.iload (i := 4) rfl dX6_digest_47 (pc' := 49) rfl ?_
                  refine X.bipush (by decide +kernel) dX6_digest_49 (pc' := 51) rfl ?_
                  refine X.icmp_ge (tgt := 75) dX6_digest_51 ⟨by omega, by omega⟩ ⟨by omega, by omega⟩ (by decide) (pc' := 54) rfl (fun c51 => ?_) (fun c51 => ?_)
                  · refine X.ldc2 (v := 31) wd_1012 dX6_digest_75 (pc' := 78) rfl ?_
                    refine X.lload_n (i := 1) rfl rfl dX6_digest_78 (pc' := 79) rfl ?_
                    refine X.lmul dX6_digest_79 (pc' := 80) rfl ?_
                    refine X.aload_n (i := 0) rfl rfl dX6_digest_80 (pc' := 81) rfl ?_
                    refine X.iload_n (i := 3) rfl rfl dX6_digest_81 (pc' := 82) rfl ?_
                    refine X.aload_n (i := 0) rfl rfl dX6_digest_82 (pc' := 83) rfl ?_
                    refine X.getR fk_X6_8 xcl_6 dX6_digest_83 hL2.1.1 hL2.1.2.1 (pc' := 86) rfl ?_
                    refine X.iconst dX6_digest_86 (pc' := 87) rfl ?_
                    refine X.iald (x := aB (lA L)) dX6_digest_87 hL2.1.2.2.1 (by omega) (by omega) ⟨by omega, by omega⟩ (mI_at hL2.2.1.2.1 (by omega)) (pc' := 88) rfl (fun r50 => ?_)
                    obtain ⟨r50a, r50b⟩ := r50
                    refine X.callV (ci := 6) (a := m) (rm := rm_X6_voice) (As := [vi s, vi (aB (lA L))]) (st := [vl (31 * z2)]) dX6_digest_88 ck_X6_43 rfl (by decide) hL2.1.1 rfl rfl ⟨Nat.le_of_ble_eq_true rfl, Nat.le_of_ble_eq_true rfl⟩ (Nat.le_of_ble_eq_true rfl) (Nat.le_of_ble_eq_true rfl) (Nat.le_of_ble_eq_true rfl) (pc' := 91) rfl (k_X6_voice hL2.1 hL2.2.1 hA ⟨by omega, by omega⟩ ⟨by omega, by omega⟩) (fun q51 hq51 eq51 => ?_) (fun _ _ x1 => x1.elim)
                    obtain ⟨rfl, y, rfl, hy⟩ := eq51
                    have hyr := vce_rng hA s (aB (lA L)) (by omega) (by omega)
                    refine X.i2l ⟨by omega, by omega⟩ dX6_digest_91 (pc' := 92) rfl ?_
                    refine X.ladd dX6_digest_92 (pc' := 93) rfl ?_
                    refine X.lstore_n (i := 1) (ls' := [some (rf m), some (vl ((31 * z2) + (Int64.ofInt y))), none, some (vi s), some (vi w), none, none]) (hi := rfl) (hd := dX6_digest_93) (by decide) rfl rfl (pc' := 94) rfl ?_
                    refine X.iinc (i := 3) (ls' := [some (rf m), some (vl ((31 * z2) + (Int64.ofInt y))), none, some (vi (s + 1)), some (vi w), none, none]) dX6_digest_94 rfl (by decide) rfl rfl (pc' := 97) rfl ?_
                    refine X.goto (tgt := 38) dX6_digest_97 (by decide) ?_
                    refine X.mask (bs := [true, true, false, true, false, false, false]) (ls' := [some (rf m), some (vl ((31 * z2) + (Int64.ofInt y))), none, some (vi (s + 1)), none, none, none]) rfl ?_
                    refine ih38 ((31 * z2) + (Int64.ofInt y)) (s + 1) (by omega) ?_
                    exact ⟨by omega, by omega, by rw [itF_at hs0, ← hv2, hy, hz2, show w = 8 by omega]; rfl⟩
                  · refine X.ldc2 (v := 31) wd_1012 dX6_digest_54 (pc' := 57) rfl ?_
                    refine X.lload_n (i := 1) rfl rfl dX6_digest_57 (pc' := 58) rfl ?_
                    refine X.lmul dX6_digest_58 (pc' := 59) rfl ?_
                    refine X.aload_n (i := 0) rfl rfl dX6_digest_59 (pc' := 60) rfl ?_
                    refine X.iload_n (i := 3) rfl rfl dX6_digest_60 (pc' := 61) rfl ?_
                    refine X.iload (i := 4) rfl dX6_digest_61 (pc' := 63) rfl ?_
                    refine X.callV (ci := 6) (a := m) (rm := rm_X6_ofSpeaker) (As := [vi s, vi w]) (st := [vl (31 * z2)]) dX6_digest_63 ck_X6_154 rfl (by decide) hL2.1.1 rfl rfl ⟨Nat.le_of_ble_eq_true rfl, Nat.le_of_ble_eq_true rfl⟩ (Nat.le_of_ble_eq_true rfl) (Nat.le_of_ble_eq_true rfl) (Nat.le_of_ble_eq_true rfl) (pc' := 66) rfl (k_X6_ofSpeaker hL2.1 hL2.2.1 hA ⟨by omega, by omega⟩ ⟨by omega, by omega⟩) (fun q52 hq52 eq52 => ?_) (fun _ _ x1 => x1.elim)
                    obtain ⟨rfl, r, rfl, hr⟩ := eq52
                    have hrr := oSp_rng hA (s := s) (w := w) ⟨by omega, by omega⟩
                    refine X.i2l ⟨by omega, by omega⟩ dX6_digest_66 (pc' := 67) rfl ?_
                    refine X.ladd dX6_digest_67 (pc' := 68) rfl ?_
                    refine X.lstore_n (i := 1) (ls' := [some (rf m), some (vl ((31 * z2) + (Int64.ofInt r))), none, some (vi s), some (vi w), none, none]) (hi := rfl) (hd := dX6_digest_68) (by decide) rfl rfl (pc' := 69) rfl ?_
                    refine X.iinc (i := 4) (ls' := [some (rf m), some (vl ((31 * z2) + (Int64.ofInt r))), none, some (vi s), some (vi (w + 1)), none, none]) dX6_digest_69 rfl (by decide) rfl rfl (pc' := 72) rfl ?_
                    refine X.goto (tgt := 47) dX6_digest_72 (by decide) ?_
                    refine ih47 ((31 * z2) + (Int64.ofInt r)) (w + 1) (by omega) ?_
                    exact ⟨by omega, by omega, by rw [itF_at hw0, ← hz2, hr]; rfl⟩
              refine L47 _ v2 0 (Nat.lt_succ_self _) ?_
              exact ⟨by omega, by omega, rfl⟩
        refine L38 _ v1 0 (Nat.lt_succ_self _) ?_
        exact ⟨by omega, by omega, rfl⟩
      · refine X.ldc2 (v := 31) wd_1012 dX6_digest_17 (pc' := 20) rfl ?_
        refine X.lload_n (i := 1) rfl rfl dX6_digest_20 (pc' := 21) rfl ?_
        refine X.lmul dX6_digest_21 (pc' := 22) rfl ?_
        refine X.aload_n (i := 0) rfl rfl dX6_digest_22 (pc' := 23) rfl ?_
        refine X.iload_n (i := 3) rfl rfl dX6_digest_23 (pc' := 24) rfl ?_
        refine X.callV (ci := 6) (a := m) (rm := rm_X6_counted) (As := [vi k]) (st := [vl (31 * v1)]) dX6_digest_24 ck_X6_167 rfl (by decide) hL2.1.1 rfl rfl ⟨Nat.le_of_ble_eq_true rfl, Nat.le_of_ble_eq_true rfl⟩ (Nat.le_of_ble_eq_true rfl) (Nat.le_of_ble_eq_true rfl) (Nat.le_of_ble_eq_true rfl) (pc' := 27) rfl (k_X6_counted hL2 ⟨by omega, by omega⟩) (fun q53 hq53 eq53 => ?_) (fun _ _ x1 => x1.elim)
        obtain ⟨rfl, r, rfl, hr⟩ := eq53
        have hr9 : r = dgO L k := hr
        have hrr := dgO_rng hA hz6 (w := k) ⟨by omega, by omega⟩
        refine X.i2l ⟨by omega, by omega⟩ dX6_digest_27 (pc' := 28) rfl ?_
        refine X.ladd dX6_digest_28 (pc' := 29) rfl ?_
        refine X.lstore_n (i := 1) (ls' := [some (rf m), some (vl ((31 * v1) + (Int64.ofInt r))), none, some (vi k), none, none, none]) (hi := rfl) (hd := dX6_digest_29) (by decide) rfl rfl (pc' := 30) rfl ?_
        refine X.iinc (i := 3) (ls' := [some (rf m), some (vl ((31 * v1) + (Int64.ofInt r))), none, some (vi (k + 1)), none, none, none]) dX6_digest_30 rfl (by decide) rfl rfl (pc' := 33) rfl ?_
        refine X.goto (tgt := 11) dX6_digest_33 (by decide) ?_
        refine ih11 ((31 * v1) + (Int64.ofInt r)) (k + 1) (by omega) ?_
        exact ⟨by omega, by omega, by rw [itF_at hk0, ← hv1, hr9]; rfl⟩
  refine L11 _ 3853 0 (Nat.lt_succ_self _) ?_
  exact ⟨by omega, by omega, rfl⟩
