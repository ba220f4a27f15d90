set_option maxHeartbeats 4000000 in
set_option maxRecDepth 100000 in
theorem k_X5_digest {Ω : xO} {h : xM} {x lo : Nat} {L : lS} (hE : EL h x lo L) : xCt Ω yX5_digest cX5_digest 3 (some .long) rm_X5_digest [rf x] h (fun q h' => q = some (vl (dig L)) ∧ EL h' x lo L ∧ EF h h' x lo) xNo := by
  refine xCt_of (ini := false) (by decide +kernel) (Nat.le_of_ble_eq_true rfl) (fun q => absurd q (by decide)) ?_
  generalize hPR : (fun q h' => q = some (vl (dig L)) ∧ EL h' x lo L ∧ EF h h' x lo : Option xV → xM → Prop) = PR
  have K0 : X Ω RX5 cX5_digest 3 (some .long) false rm_X5_digest PR xNo 0 0 0 [some (rf x), none, none] [] h := ?_
  exact K0
  have okA : aOK (lA L) := hE.2.1.1.2.1
  obtain ⟨okB, okN, okWl, okS, okW, okM, okC, okH⟩ := id hE.2.1.1.2.1
  have hlo := hE.2.2.2.2.2.2
  have hz6 := hE.2.2.1.2.2.1
  have hnB : mI h (x + 1) 0 = aB (lA L) := hE.2.1.1.2.2.1
  have hnW : mI h (x + 1) 1 = aW (lA L) := hE.2.1.1.2.2.2.1
  have hHz : mI h (x + 31) 0 = lZ L := hE.2.2.1.2.1
  have hTn : mI h (x + 33) 0 = lTn L := hE.2.2.2.2.1.1
  have hTr := hE.2.2.2.2.1.2.1
  refine X.new (ci := 1) dX5_digest_0 xcl_1 (by decide) rfl wd_211 wd_212 wd_32 (Nat.le_of_ble_eq_true rfl) (Nat.le_of_ble_eq_true rfl) (pc' := 3) rfl ?_
  refine X.genH (fun h1 hh1 => ?_)
  have hN1 : mN h1 = mN h + 1 := by rw [hh1, mN_aL]
  refine X.dup rfl dX5_digest_3 (pc' := 4) rfl ?_
  refine X.callIN (a := mN h) (rm := rm_X1_init) (As := []) (st := [rf (mN h)]) dX5_digest_4 ck_X5_181 rfl rfl rfl ⟨Nat.le_of_ble_eq_true rfl, Nat.le_of_ble_eq_true rfl⟩ (Nat.le_of_ble_eq_true rfl) (Nat.le_of_ble_eq_true rfl) (Nat.le_of_ble_eq_true rfl) (pc' := 7) rfl (k_X1_init (by rw [hh1, mT_aL, if_pos rfl]) hN1) (fun q2 hq2 eq2 => ?_)
  obtain ⟨rfl, hTn, hLn, hNn⟩ := eq2
  have hNw : NewS h hq2 (mN h) 1 := ⟨hNn.1, fun c hc => by
    obtain ⟨z1, z2, z3, z4⟩ := hNn.2 c hc
    have zc : c ≠ mN h := by omega
    exact ⟨by rw [z1, hh1, mT_aL, if_neg zc], by rw [z2, hh1]; funext j; rw [mI_aL, if_neg zc], by rw [z3, hh1]; funext j; rw [mR_aL, if_neg zc], by rw [z4, hh1]; funext j; rw [mL_aL, if_neg zc]⟩⟩
  have hUp := hE.up (g := hq2) (by rw [hNw.1]; omega) (fun c hc => hNw.sam (Or.inl hc))
  have hE0 : EL hq2 x lo L := hUp.1
  have hSt : hq2 = sL hq2 (mN h) 0 3853 := by
    have := sL_id hq2 (mN h)
    rw [hLn] at this
    exact this.symm
  rw [hSt]
  refine X.astore_n (i := 1) (ls' := [some (rf x), some (rf (mN h)), none]) (hi := rfl) (hd := dX5_digest_7) (by decide) rfl rfl (pc' := 8) rfl ?_
  refine X.iconst dX5_digest_8 (pc' := 9) rfl ?_
  refine X.istore_n (i := 2) (ls' := [some (rf x), some (rf (mN h)), some (vi 0)]) (hi := rfl) (hd := dX5_digest_9) (by decide) rfl rfl (pc' := 10) rfl ?_
  have L10 : ∀ (n10 : Nat) (v : Int64) (k : Int), (10 - k).toNat < n10 → (0 ≤ k ∧ k ≤ 10 ∧ v = itF (fun k => tkV (dgO L k)) 3853 k.toNat) → X Ω RX5 cX5_digest 3 (some .long) false rm_X5_digest PR xNo 1 1 10 [some (rf x), some (rf (mN h)), some (vi k)] [] ((sL hq2 (mN h) 0 v)) := by
    intro n10
    induction n10 with
    | zero => intro v k hm _; exfalso; omega
    | succ n10 ih10 =>
      intro v k hm10 hinv
      obtain ⟨hk0, hk9, hv⟩ := hinv
      refine X.iload_n (i := 2) rfl rfl dX5_digest_10 (pc' := 11) rfl ?_
      refine X.bipush (by decide +kernel) dX5_digest_11 (pc' := 13) rfl ?_
      refine X.icmp_gt (tgt := 32) dX5_digest_13 ⟨by omega, by omega⟩ ⟨by omega, by omega⟩ (by decide) (pc' := 16) rfl (fun c13 => ?_) (fun c13 => ?_)
      · refine X.aload_n (i := 0) rfl rfl dX5_digest_32 (pc' := 33) rfl ?_
        refine X.aload_n (i := 1) rfl rfl dX5_digest_33 (pc' := 34) rfl ?_
        refine X.callV (ci := 5) (a := x) (rm := rm_X5_takeSpeakers) (As := [rf (mN h)]) (st := []) dX5_digest_34 ck_X5_186 rfl (by decide) hE0.1.1 rfl rfl ⟨Nat.le_of_ble_eq_true rfl, Nat.le_of_ble_eq_true rfl⟩ (Nat.le_of_ble_eq_true rfl) (Nat.le_of_ble_eq_true rfl) (Nat.le_of_ble_eq_true rfl) (pc' := 37) rfl (k_X5_takeSpeakers (h := (sL hq2 (mN h) 0 v)) (a := mN h) hE0 hTn) (fun q3 hq3 eq3 => ?_) (fun _ _ x1 => x1.elim)
        obtain ⟨rfl, rfl⟩ := eq3
        rw [sL_sL, mL_at]
        refine X.aload_n (i := 0) rfl rfl dX5_digest_37 (pc' := 38) rfl ?_
        refine X.aload_n (i := 1) rfl rfl dX5_digest_38 (pc' := 39) rfl ?_
        refine X.callV (ci := 5) (a := x) (rm := rm_X5_takeLatestWords) (As := [rf (mN h)]) (st := []) dX5_digest_39 ck_X5_190 rfl (by decide) hE0.1.1 rfl rfl ⟨Nat.le_of_ble_eq_true rfl, Nat.le_of_ble_eq_true rfl⟩ (Nat.le_of_ble_eq_true rfl) (Nat.le_of_ble_eq_true rfl) (Nat.le_of_ble_eq_true rfl) (pc' := 42) rfl (k_X5_takeLatestWords (h := (sL hq2 (mN h) 0 (dgS (lA L) v))) (a := mN h) hE0 hTn) (fun q4 hq4 eq4 => ?_) (fun _ _ x1 => x1.elim)
        obtain ⟨rfl, rfl⟩ := eq4
        rw [sL_sL, mL_at]
        refine X.aload_n (i := 0) rfl rfl dX5_digest_42 (pc' := 43) rfl ?_
        refine X.aload_n (i := 1) rfl rfl dX5_digest_43 (pc' := 44) rfl ?_
        refine X.callV (ci := 5) (a := x) (rm := rm_X5_takeLatestBeats) (As := [rf (mN h)]) (st := []) dX5_digest_44 ck_X5_193 rfl (by decide) hE0.1.1 rfl rfl ⟨Nat.le_of_ble_eq_true rfl, Nat.le_of_ble_eq_true rfl⟩ (Nat.le_of_ble_eq_true rfl) (Nat.le_of_ble_eq_true rfl) (Nat.le_of_ble_eq_true rfl) (pc' := 47) rfl (k_X5_takeLatestBeats (h := (sL hq2 (mN h) 0 (dgW (lA L) ((dgS (lA L) v))))) (a := mN h) hE0 hTn) (fun q5 hq5 eq5 => ?_) (fun _ _ x1 => x1.elim)
        obtain ⟨rfl, rfl⟩ := eq5
        rw [sL_sL, mL_at]
        refine X.aload_n (i := 0) rfl rfl dX5_digest_47 (pc' := 48) rfl ?_
        refine X.aload_n (i := 1) rfl rfl dX5_digest_48 (pc' := 49) rfl ?_
        refine X.callV (ci := 5) (a := x) (rm := rm_X5_takeMessages) (As := [rf (mN h)]) (st := []) dX5_digest_49 ck_X5_196 rfl (by decide) hE0.1.1 rfl rfl ⟨Nat.le_of_ble_eq_true rfl, Nat.le_of_ble_eq_true rfl⟩ (Nat.le_of_ble_eq_true rfl) (Nat.le_of_ble_eq_true rfl) (Nat.le_of_ble_eq_true rfl) (pc' := 52) rfl (k_X5_takeMessages (h := (sL hq2 (mN h) 0 (dgB (lA L) ((dgW (lA L) ((dgS (lA L) v))))))) (a := mN h) hE0 hTn) (fun q6 hq6 eq6 => ?_) (fun _ _ x1 => x1.elim)
        obtain ⟨rfl, rfl⟩ := eq6
        rw [sL_sL, mL_at]
        refine X.iconst dX5_digest_52 (pc' := 53) rfl ?_
        refine X.istore_n (i := 2) (ls' := [some (rf x), some (rf (mN h)), some (vi 0)]) (hi := rfl) (hd := dX5_digest_53) (by decide) rfl rfl (pc' := 54) rfl ?_
        have L54 : ∀ (n54 : Nat) (z : Int64) (t : Int), (6 - t).toNat < n54 → (0 ≤ t ∧ t ≤ 6 ∧ z = itF (fun s => tkV (dsl (lA L) s)) (dgM (lA L) (dgB (lA L) (dgW (lA L) (dgS (lA L) v)))) t.toNat) → X Ω RX5 cX5_digest 3 (some .long) false rm_X5_digest PR xNo 1 1 54 [some (rf x), some (rf (mN h)), some (vi t)] [] ((sL hq2 (mN h) 0 z)) := by
          intro n54
          induction n54 with
          | zero => intro z t hm _; exfalso; omega
          | succ n54 ih54 =>
            intro z t hm54 hinv
            obtain ⟨ht0, ht6, hz⟩ := hinv
            refine X.iload_n (i := 2) rfl rfl dX5_digest_54 (pc' := 55) rfl ?_
            refine X.bipush (by decide +kernel) dX5_digest_55 (pc' := 57) rfl ?_
            refine X.icmp_ge (tgt := 104) dX5_digest_57 ⟨by omega, by omega⟩ ⟨by omega, by omega⟩ (by decide) (pc' := 60) rfl (fun c57 => ?_) (fun c57 => ?_)
            · refine X.aload_n (i := 1) rfl rfl dX5_digest_104 (pc' := 105) rfl ?_
              refine X.aload_n (i := 0) rfl rfl dX5_digest_105 (pc' := 106) rfl ?_
              refine X.getR fk_X5_21 xcl_5 dX5_digest_106 hE0.1.1 hE0.1.2.2.1 (pc' := 109) rfl ?_
              refine X.callV (ci := 3) (a := (x + 30)) (rm := rm_X3_bestPlace) (As := []) (st := [rf (mN h)]) dX5_digest_109 ck_X5_172 rfl (by decide) hE0.1.2.2.2.2.2.2.1.1 rfl rfl ⟨Nat.le_of_ble_eq_true rfl, Nat.le_of_ble_eq_true rfl⟩ (Nat.le_of_ble_eq_true rfl) (Nat.le_of_ble_eq_true rfl) (Nat.le_of_ble_eq_true rfl) (pc' := 112) rfl (k_X3_bestPlace (h := (sL hq2 (mN h) 0 z)) hE0.1.2.2.2.2.2.2.1 hE0.2.1) (fun q7 hq7 eq7 => ?_) (fun _ _ x1 => x1.elim)
              obtain ⟨rfl, bs, rfl, hbs⟩ := eq7
              have hbr := bst_rng okA
              refine X.i2l ⟨by omega, by omega⟩ dX5_digest_112 (pc' := 113) rfl ?_
              refine X.callV (ci := 1) (a := mN h) (rm := rm_X1_take) (As := [vl (Int64.ofInt bs)]) (st := []) dX5_digest_113 ck_X5_182 rfl (by decide) hTn rfl rfl ⟨Nat.le_of_ble_eq_true rfl, Nat.le_of_ble_eq_true rfl⟩ (Nat.le_of_ble_eq_true rfl) (Nat.le_of_ble_eq_true rfl) (Nat.le_of_ble_eq_true rfl) (pc' := 116) rfl (k_X1_take (h := (sL hq2 (mN h) 0 z)) hTn) (fun q8 hq8 eq8 => ?_) (fun _ _ x1 => x1.elim)
              obtain ⟨rfl, rfl⟩ := eq8
              rw [sL_sL, mL_at]
              refine X.aload_n (i := 1) rfl rfl dX5_digest_116 (pc' := 117) rfl ?_
              refine X.aload_n (i := 0) rfl rfl dX5_digest_117 (pc' := 118) rfl ?_
              refine X.getR fk_X5_21 xcl_5 dX5_digest_118 hE0.1.1 hE0.1.2.2.1 (pc' := 121) rfl ?_
              refine X.callV (ci := 3) (a := (x + 30)) (rm := rm_X3_share) (As := []) (st := [rf (mN h)]) dX5_digest_121 ck_X5_175 rfl (by decide) hE0.1.2.2.2.2.2.2.1.1 rfl rfl ⟨Nat.le_of_ble_eq_true rfl, Nat.le_of_ble_eq_true rfl⟩ (Nat.le_of_ble_eq_true rfl) (Nat.le_of_ble_eq_true rfl) (Nat.le_of_ble_eq_true rfl) (pc' := 124) rfl (k_X3_share (h := (sL hq2 (mN h) 0 (31 * z + Int64.ofInt bs))) hE0.1.2.2.2.2.2.2.1 hE0.2.1) (fun q9 hq9 eq9 => ?_) (fun _ _ x1 => x1.elim)
              obtain ⟨rfl, rfl⟩ := eq9
              refine X.callS (rm := rm_X1_bitsOf) (As := [vd (shr (lA L))]) (st := [rf (mN h)]) dX5_digest_124 ck_X5_201 rfl rfl ⟨Nat.le_of_ble_eq_true rfl, Nat.le_of_ble_eq_true rfl⟩ (Nat.le_of_ble_eq_true rfl) (Nat.le_of_ble_eq_true rfl) (Nat.le_of_ble_eq_true rfl) (pc' := 127) rfl (k_X1_bitsOfS (h := (sL hq2 (mN h) 0 (31 * z + Int64.ofInt bs))) (shr_ok okA)) (fun q10 hq10 eq10 => ?_) (fun _ _ x1 => x1.elim)
              obtain ⟨rfl, rfl⟩ := eq10
              refine X.callV (ci := 1) (a := mN h) (rm := rm_X1_take) (As := [vl ((shr (lA L)).toInt64)]) (st := []) dX5_digest_127 ck_X5_182 rfl (by decide) hTn rfl rfl ⟨Nat.le_of_ble_eq_true rfl, Nat.le_of_ble_eq_true rfl⟩ (Nat.le_of_ble_eq_true rfl) (Nat.le_of_ble_eq_true rfl) (Nat.le_of_ble_eq_true rfl) (pc' := 130) rfl (k_X1_take (h := (sL hq2 (mN h) 0 (31 * z + Int64.ofInt bs))) hTn) (fun q11 hq11 eq11 => ?_) (fun _ _ x1 => x1.elim)
              obtain ⟨rfl, rfl⟩ := eq11
              rw [sL_sL, mL_at]
              refine X.aload_n (i := 1) rfl rfl dX5_digest_130 (pc' := 131) rfl ?_
              refine X.aload_n (i := 0) rfl rfl dX5_digest_131 (pc' := 132) rfl ?_
              refine X.getR fk_X5_35 xcl_5 dX5_digest_132 hE0.1.1 hE0.1.2.2.2.2.1 (pc' := 135) rfl ?_
              refine X.getI (x := lTn L) fk_X5_100 xcl_4 dX5_digest_135 (by decide) hE0.1.2.2.2.2.2.2.2.2.1 hE0.2.2.2.2.1.1 (pc' := 138) rfl (fun r12 => ?_)
              obtain ⟨r12a, r12b⟩ := r12
              refine X.i2l ⟨by omega, by omega⟩ dX5_digest_138 (pc' := 139) rfl ?_
              refine X.callV (ci := 1) (a := mN h) (rm := rm_X1_take) (As := [vl (Int64.ofInt (lTn L))]) (st := []) dX5_digest_139 ck_X5_182 rfl (by decide) hTn rfl rfl ⟨Nat.le_of_ble_eq_true rfl, Nat.le_of_ble_eq_true rfl⟩ (Nat.le_of_ble_eq_true rfl) (Nat.le_of_ble_eq_true rfl) (Nat.le_of_ble_eq_true rfl) (pc' := 142) rfl (k_X1_take (h := (sL hq2 (mN h) 0 (31 * ((31 * z + Int64.ofInt bs)) + (shr (lA L)).toInt64))) hTn) (fun q13 hq13 eq13 => ?_) (fun _ _ x1 => x1.elim)
              obtain ⟨rfl, rfl⟩ := eq13
              rw [sL_sL, mL_at]
              refine X.iconst dX5_digest_142 (pc' := 143) rfl ?_
              refine X.istore_n (i := 2) (ls' := [some (rf x), some (rf (mN h)), some (vi 0)]) (hi := rfl) (hd := dX5_digest_143) (by decide) rfl rfl (pc' := 144) rfl ?_
              have L144 : ∀ (n144 : Nat) (y : Int64) (k1 : Int), (lTn L - k1).toNat < n144 → (0 ≤ k1 ∧ k1 ≤ lTn L ∧ y = itF (fun k => tkV (lTg L k)) (tkV (lTn L) (31 * tkV (bst (lA L)) z + (shr (lA L)).toInt64)) k1.toNat) → X Ω RX5 cX5_digest 3 (some .long) false rm_X5_digest PR xNo 1 1 144 [some (rf x), some (rf (mN h)), some (vi k1)] [] ((sL hq2 (mN h) 0 y)) := by
                intro n144
                induction n144 with
                | zero => intro y k1 hm _; exfalso; omega
                | succ n144 ih144 =>
                  intro y k1 hm144 hinv
                  obtain ⟨hk0, hkn, hy⟩ := hinv
                  refine X.iload_n (i := 2) rfl rfl dX5_digest_144 (pc' := 145) rfl ?_
                  refine X.aload_n (i := 0) rfl rfl dX5_digest_145 (pc' := 146) rfl ?_
                  refine X.getR fk_X5_35 xcl_5 dX5_digest_146 hE0.1.1 hE0.1.2.2.2.2.1 (pc' := 149) rfl ?_
                  refine X.getI (x := lTn L) fk_X5_100 xcl_4 dX5_digest_149 (by decide) hE0.1.2.2.2.2.2.2.2.2.1 hE0.2.2.2.2.1.1 (pc' := 152) rfl (fun r14 => ?_)
                  obtain ⟨r14a, r14b⟩ := r14
                  refine X.icmp_ge (tgt := 175) dX5_digest_152 ⟨by omega, by omega⟩ ⟨by omega, by omega⟩ (by decide) (pc' := 155) rfl (fun c152 => ?_) (fun c152 => ?_)
                  · refine X.aload_n (i := 1) rfl rfl dX5_digest_175 (pc' := 176) rfl ?_
                    refine X.getL (x := mL ((sL hq2 (mN h) 0 y)) (mN h) 0) fk_X5_209 xcl_1 dX5_digest_176 hTn rfl (pc' := 179) rfl ?_
                    refine X.lret dX5_digest_179 rfl (Nat.le_of_ble_eq_true rfl) (Nat.le_of_ble_eq_true rfl) ?_
                    subst hPR
                    have e1 : v = dgA L 3853 := by rw [hv, show k = 10 by omega]; rfl
                    have e2 : z = dgL (lA L) (dgM (lA L) (dgB (lA L) (dgW (lA L) (dgS (lA L) v)))) := by rw [hz, show t = 6 by omega]; rfl
                    have e3 : y = dgT L (tkV (lTn L) (31 * tkV (bst (lA L)) z + (shr (lA L)).toInt64)) := by rw [hy, show k1 = lTn L by omega]; rfl
                    refine ⟨?_, hE0, EF_sL hUp.2 (by omega)⟩
                    rw [mL_at, e3, e2, e1]
                    rfl
                  · refine X.aload_n (i := 1) rfl rfl dX5_digest_155 (pc' := 156) rfl ?_
                    refine X.aload_n (i := 0) rfl rfl dX5_digest_156 (pc' := 157) rfl ?_
                    refine X.getR fk_X5_35 xcl_5 dX5_digest_157 hE0.1.1 hE0.1.2.2.2.2.1 (pc' := 160) rfl ?_
                    refine X.getR fk_X5_205 xcl_4 dX5_digest_160 hE0.1.2.2.2.2.2.2.2.2.1 hE0.1.2.2.2.2.2.2.2.2.2.1 (pc' := 163) rfl ?_
                    refine X.iload_n (i := 2) rfl rfl dX5_digest_163 (pc' := 164) rfl ?_
                    refine X.cald (x := lTg L k1) dX5_digest_164 hE0.1.2.2.2.2.2.2.2.2.2.2 (by omega) (by omega) ⟨by omega, by omega⟩ (mI_at (hE0.2.2.2.2.1.2.2 k1 (by omega) (by omega)).1 (by omega)) (pc' := 165) rfl (fun r15 => ?_)
                    obtain ⟨r15a, r15b⟩ := r15
                    have r15c := (hE0.2.2.2.2.1.2.2 k1 (by omega) (by omega)).2
                    refine X.i2l ⟨by omega, by omega⟩ dX5_digest_165 (pc' := 166) rfl ?_
                    refine X.callV (ci := 1) (a := mN h) (rm := rm_X1_take) (As := [vl (Int64.ofInt (lTg L k1))]) (st := []) dX5_digest_166 ck_X5_182 rfl (by decide) hTn rfl rfl ⟨Nat.le_of_ble_eq_true rfl, Nat.le_of_ble_eq_true rfl⟩ (Nat.le_of_ble_eq_true rfl) (Nat.le_of_ble_eq_true rfl) (Nat.le_of_ble_eq_true rfl) (pc' := 169) rfl (k_X1_take (h := (sL hq2 (mN h) 0 y)) hTn) (fun q16 hq16 eq16 => ?_) (fun _ _ x1 => x1.elim)
                    obtain ⟨rfl, rfl⟩ := eq16
                    rw [sL_sL, mL_at]
                    refine X.iinc (i := 2) (ls' := [some (rf x), some (rf (mN h)), some (vi (k1 + 1))]) dX5_digest_169 rfl (by decide) rfl rfl (pc' := 172) rfl ?_
                    refine X.goto (tgt := 144) dX5_digest_172 (by decide) ?_
                    refine ih144 ((31 * y + Int64.ofInt (lTg L k1))) (k1 + 1) (by omega) ?_
                    exact ⟨by omega, by omega, by rw [itF_at hk0, ← hy]; rfl⟩
              refine L144 _ ((31 * ((31 * ((31 * z + Int64.ofInt bs)) + (shr (lA L)).toInt64)) + Int64.ofInt (lTn L))) 0 (Nat.lt_succ_self _) ?_
              exact ⟨by omega, by omega, by rw [hbs]; rfl⟩
            · refine X.aload_n (i := 1) rfl rfl dX5_digest_60 (pc' := 61) rfl ?_
              refine X.aload_n (i := 0) rfl rfl dX5_digest_61 (pc' := 62) rfl ?_
              refine X.getR fk_X5_10 xcl_5 dX5_digest_62 hE0.1.1 hE0.1.2.1 (pc' := 65) rfl ?_
              refine X.getI (x := aW (lA L)) fk_X5_116 xcl_0 dX5_digest_65 (by decide) hE0.2.1.1.1.1 hE0.2.1.1.2.2.2.1 (pc' := 68) rfl (fun r17 => ?_)
              obtain ⟨r17a, r17b⟩ := r17
              refine X.if_le (tgt := 92) dX5_digest_68 ⟨by omega, by omega⟩ (by decide) (pc' := 71) rfl (fun c68 => ?_) (fun c68 => ?_)
              · refine X.ldc2 (v := -1) wd_330 dX5_digest_92 (pc' := 95) rfl ?_
                refine X.callV (ci := 1) (a := mN h) (rm := rm_X1_take) (As := [vl (-1)]) (st := []) dX5_digest_95 ck_X5_182 rfl (by decide) hTn rfl rfl ⟨Nat.le_of_ble_eq_true rfl, Nat.le_of_ble_eq_true rfl⟩ (Nat.le_of_ble_eq_true rfl) (Nat.le_of_ble_eq_true rfl) (Nat.le_of_ble_eq_true rfl) (pc' := 98) rfl (k_X1_take (h := (sL hq2 (mN h) 0 z)) hTn) (fun q18 hq18 eq18 => ?_) (fun _ _ x1 => x1.elim)
                obtain ⟨rfl, rfl⟩ := eq18
                rw [sL_sL, mL_at]
                refine X.iinc (i := 2) (ls' := [some (rf x), some (rf (mN h)), some (vi (t + 1))]) dX5_digest_98 rfl (by decide) rfl rfl (pc' := 101) rfl ?_
                refine X.goto (tgt := 54) dX5_digest_101 (by decide) ?_
                refine ih54 ((31 * z + -1)) (t + 1) (by omega) ?_
                exact ⟨by omega, by omega, by rw [itF_at ht0, ← hz, show dsl (lA L) t = -1 by unfold dsl; rw [if_neg (by omega)]]; rfl⟩
              · refine X.aload_n (i := 0) rfl rfl dX5_digest_71 (pc' := 72) rfl ?_
                refine X.getR fk_X5_21 xcl_5 dX5_digest_72 hE0.1.1 hE0.1.2.2.1 (pc' := 75) rfl ?_
                refine X.aload_n (i := 0) rfl rfl dX5_digest_75 (pc' := 76) rfl ?_
                refine X.getR fk_X5_10 xcl_5 dX5_digest_76 hE0.1.1 hE0.1.2.1 (pc' := 79) rfl ?_
                refine X.getI (x := aW (lA L)) fk_X5_116 xcl_0 dX5_digest_79 (by decide) hE0.2.1.1.1.1 hE0.2.1.1.2.2.2.1 (pc' := 82) rfl (fun r19 => ?_)
                obtain ⟨r19a, r19b⟩ := r19
                refine X.iconst dX5_digest_82 (pc' := 83) rfl ?_
                refine X.isub dX5_digest_83 (pc' := 84) rfl ?_
                refine X.iload_n (i := 2) rfl rfl dX5_digest_84 (pc' := 85) rfl ?_
                refine X.callV (ci := 3) (a := (x + 30)) (rm := rm_X3_silentBeatsUntilHeard) (As := [vi ((aW (lA L)) - 1), vi t]) (st := [rf (mN h)]) dX5_digest_85 ck_X5_169 rfl (by decide) hE0.1.2.2.2.2.2.2.1.1 rfl rfl ⟨Nat.le_of_ble_eq_true rfl, Nat.le_of_ble_eq_true rfl⟩ (Nat.le_of_ble_eq_true rfl) (Nat.le_of_ble_eq_true rfl) (Nat.le_of_ble_eq_true rfl) (pc' := 88) rfl (k_X3_silentBeatsUntilHeard (h := (sL hq2 (mN h) 0 z)) hE0.1.2.2.2.2.2.2.1 hE0.2.1 ⟨by omega, by omega⟩ ⟨by omega, by omega⟩) (fun q20 hq20 eq20 => ?_) (fun _ _ x1 => x1.elim)
                obtain ⟨rfl, r, rfl, hr⟩ := eq20
                have hrr := sil_rng (lA L) (aW (lA L) - 1) t
                refine X.i2l ⟨by omega, by omega⟩ dX5_digest_88 (pc' := 89) rfl ?_
                refine X.goto (tgt := 95) dX5_digest_89 (by decide) ?_
                refine X.callV (ci := 1) (a := mN h) (rm := rm_X1_take) (As := [vl (Int64.ofInt r)]) (st := []) dX5_digest_95 ck_X5_182 rfl (by decide) hTn rfl rfl ⟨Nat.le_of_ble_eq_true rfl, Nat.le_of_ble_eq_true rfl⟩ (Nat.le_of_ble_eq_true rfl) (Nat.le_of_ble_eq_true rfl) (Nat.le_of_ble_eq_true rfl) (pc' := 98) rfl (k_X1_take (h := (sL hq2 (mN h) 0 z)) hTn) (fun q21 hq21 eq21 => ?_) (fun _ _ x1 => x1.elim)
                obtain ⟨rfl, rfl⟩ := eq21
                rw [sL_sL, mL_at]
                refine X.iinc (i := 2) (ls' := [some (rf x), some (rf (mN h)), some (vi (t + 1))]) dX5_digest_98 rfl (by decide) rfl rfl (pc' := 101) rfl ?_
                refine X.goto (tgt := 54) dX5_digest_101 (by decide) ?_
                refine ih54 ((31 * z + Int64.ofInt r)) (t + 1) (by omega) ?_
                exact ⟨by omega, by omega, by rw [itF_at ht0, ← hz, show dsl (lA L) t = r by unfold dsl; rw [if_pos (by omega), hr]]; rfl⟩
        refine L54 _ ((dgM (lA L) ((dgB (lA L) ((dgW (lA L) ((dgS (lA L) v)))))))) 0 (Nat.lt_succ_self _) ?_
        exact ⟨by omega, by omega, rfl⟩
      · refine X.aload_n (i := 1) rfl rfl dX5_digest_16 (pc' := 17) rfl ?_
        refine X.aload_n (i := 0) rfl rfl dX5_digest_17 (pc' := 18) rfl ?_
        refine X.iload_n (i := 2) rfl rfl dX5_digest_18 (pc' := 19) rfl ?_
        refine X.callV (ci := 5) (a := x) (rm := rm_X5_total) (As := [vi k]) (st := [rf (mN h)]) dX5_digest_19 ck_X5_159 rfl (by decide) hE0.1.1 rfl rfl ⟨Nat.le_of_ble_eq_true rfl, Nat.le_of_ble_eq_true rfl⟩ (Nat.le_of_ble_eq_true rfl) (Nat.le_of_ble_eq_true rfl) (Nat.le_of_ble_eq_true rfl) (pc' := 22) rfl (k_X5_total (h := (sL hq2 (mN h) 0 v)) hE0 ⟨by omega, by omega⟩ ⟨by omega, by omega⟩) (fun q22 hq22 eq22 => ?_) (fun _ _ x1 => x1.elim)
        obtain ⟨rfl, rfl⟩ := eq22
        have hdr : 0 ≤ (if k = 9 then lZ L else oAl (lA L) k) ∧ (if k = 9 then lZ L else oAl (lA L) k) ≤ 400 := dgO_rng okA hz6 (w := k) ⟨by omega, by omega⟩
        refine X.i2l ⟨by omega, by omega⟩ dX5_digest_22 (pc' := 23) rfl ?_
        refine X.callV (ci := 1) (a := mN h) (rm := rm_X1_take) (As := [vl (Int64.ofInt (dgO L k))]) (st := []) dX5_digest_23 ck_X5_182 rfl (by decide) hTn rfl rfl ⟨Nat.le_of_ble_eq_true rfl, Nat.le_of_ble_eq_true rfl⟩ (Nat.le_of_ble_eq_true rfl) (Nat.le_of_ble_eq_true rfl) (Nat.le_of_ble_eq_true rfl) (pc' := 26) rfl (k_X1_take (h := (sL hq2 (mN h) 0 v)) hTn) (fun q23 hq23 eq23 => ?_) (fun _ _ x1 => x1.elim)
        obtain ⟨rfl, rfl⟩ := eq23
        rw [sL_sL, mL_at]
        refine X.iinc (i := 2) (ls' := [some (rf x), some (rf (mN h)), some (vi (k + 1))]) dX5_digest_26 rfl (by decide) rfl rfl (pc' := 29) rfl ?_
        refine X.goto (tgt := 10) dX5_digest_29 (by decide) ?_
        refine ih10 ((31 * v + Int64.ofInt (dgO L k))) (k + 1) (by omega) ?_
        exact ⟨by omega, by omega, by rw [itF_at hk0, ← hv]; rfl⟩
  refine L10 _ 3853 0 (Nat.lt_succ_self _) ?_
  exact ⟨by omega, by omega, rfl⟩
