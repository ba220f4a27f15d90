/-! ===== the digest: what is taken, value by value ===== -/
def tkV (x : Int) (v : Int64) : Int64 := 31 * v + Int64.ofInt x
def itF (st : Int → Int64 → Int64) (v : Int64) : Nat → Int64
  | 0 => v
  | n + 1 => st n (itF st v n)
theorem itF_at {st : Int → Int64 → Int64} {v : Int64} {k : Int} (h0 : 0 ≤ k) : itF st v (k + 1).toNat = st k (itF st v k.toNat) := by
  have e : ((k.toNat : Nat) : Int) = k := by omega
  rw [show (k + 1).toNat = k.toNat + 1 by omega, show itF st v (k.toNat + 1) = st (k.toNat : Nat) (itF st v k.toNat) from rfl, e]
def dgO (L : lS) (k : Int) : Int := if k = 9 then lZ L else oAl (lA L) k
def dgA (L : lS) (v : Int64) : Int64 := itF (fun k => tkV (dgO L k)) v 10
def dsS (A : aS) (s : Int) (v : Int64) : Int64 := tkV (vce A s (aB A)) (itF (fun k => tkV (oSp A s k)) v 8)
def dgS (A : aS) (v : Int64) : Int64 := itF (dsS A) v 6
def dwS (A : aS) (n s : Int) (v : Int64) : Int64 := tkV (why A n s) (tkV (aCo A s n) v)
def dwW (A : aS) (n : Int) (v : Int64) : Int64 := itF (dwS A n) (itF (fun k => tkV (oWd A n k)) v 6) 6
def lstN (x c : Int) : Int := if x < c then x else c
def dgW (A : aS) (v : Int64) : Int64 := itF (fun i => dwW A (aW A - 1 - i)) v (lstN (aW A) 12).toNat
def dbS (A : aS) (b s : Int) (v : Int64) : Int64 := itF (fun k => tkV (oBt A s b k)) v 3
def dbB (A : aS) (b : Int) (v : Int64) : Int64 := itF (dbS A b) v 6
def dgB (A : aS) (v : Int64) : Int64 := itF (fun i => dbB A (aB A - 1 - i)) v (lstN (aB A) 8).toNat
def dmF (A : aS) (f u : Int) (v : Int64) : Int64 := tkV (smF (how A f u) 6) v
def dmM (A : aS) (f : Int) (v : Int64) : Int64 := itF (dmF A f) v 10
def dgM (A : aS) (v : Int64) : Int64 := itF (dmM A) v 6
def dsl (A : aS) (s : Int) : Int := if 0 < aW A then sil A (aW A - 1) s else -1
def dgL (A : aS) (v : Int64) : Int64 := itF (fun s => tkV (dsl A s)) v 6
def dgT (L : lS) (v : Int64) : Int64 := itF (fun k => tkV (lTg L k)) v (lTn L).toNat
def dgE (L : lS) (v : Int64) : Int64 := dgT L (tkV (lTn L) (31 * tkV (bst (lA L)) v + (shr (lA L)).toInt64))
def dig (L : lS) : Int64 := dgE L (dgL (lA L) (dgM (lA L) (dgB (lA L) (dgW (lA L) (dgS (lA L) (dgA L 3853))))))
/-! ranges -/
theorem oAl_rng {A : aS} (hA : aOK A) {w : Int} (hw : 0 ≤ w ∧ w ≤ 8) : 0 ≤ oAl A w ∧ oAl A w ≤ 400 := by
  have h1 := hA.1
  have h2 := hA.2.1
  have h3 := hA.2.2.2.1
  have h4 := cnt_rng (fun n => mHe A n = 63) (fun _ => inferInstance) (aW A).toNat
  have h5 := cnt_rng (fun n => mHe A n = 0) (fun _ => inferInstance) (aW A).toNat
  have h6 := cnt_rng (fun p => 0 < msg A p) (fun _ => inferInstance) 60
  have h7 := cnt_rng (fun p => allH A (p / 10) (p % 10)) (fun p => allHd A (p / 10) (p % 10)) 60
  unfold oAl
  unfold mWd mMs mWh
  omega
theorem dgO_rng {L : lS} (hA : aOK (lA L)) (hz : 0 ≤ lZ L ∧ lZ L ≤ 6) {w : Int} (hw : 0 ≤ w ∧ w ≤ 9) : 0 ≤ dgO L w ∧ dgO L w ≤ 400 := by
  unfold dgO
  by_cases e : w = 9
  · rw [if_pos e]; omega
  · rw [if_neg e]; exact oAl_rng hA (by omega)
theorem oSp_rng {A : aS} (hA : aOK A) {s w : Int} (hs : 0 ≤ s ∧ s < 6) : 0 ≤ oSp A s w ∧ oSp A s w ≤ 400 := by
  have h1 := hA.1
  have h2 := hA.2.1
  have h3 := hA.2.2.1 s hs.1 hs.2
  have h4 := hBt_rng hA s
  have h5 := cnt_rng (fun k => 0 < k ∧ aHe A s k ≠ -1 ∧ aHe A s k = aHe A s (k - 1)) (fun _ => inferInstance) (aB A).toNat
  have h6 := (gpF_rng (aHe A s) (aB A).toNat).1
  have h7 := cnt_rng (fun n => aSe A n = s) (fun _ => inferInstance) (aW A).toNat
  have h8 := cnt_rng (fun n => fh A s n ≠ -1) (fun _ => inferInstance) (aW A).toNat
  unfold oSp
  unfold hRp gap sBy hWd
  omega
theorem oWd_rng {A : aS} (hA : aOK A) {n w : Int} (hn : 0 ≤ n ∧ n < aW A) : -1 ≤ oWd A n w ∧ oWd A n w ≤ 400 := by
  have h1 := hA.1
  have h2 := hA.2.2.2.2.1 n hn.1 hn.2
  have h3 : 0 ≤ mCo A n ∧ mCo A n < 2 ^ 6 := mkF_rng _ _ 6
  have h4 : 0 ≤ mHe A n ∧ mHe A n < 2 ^ 6 := mkF_rng _ _ 6
  unfold oWd
  omega
theorem why_rng (A : aS) (n s : Int) : 0 ≤ why A n s ∧ why A n s ≤ 3 := by
  unfold why
  split <;> (try split) <;> (try split) <;> omega
theorem oBt_rng {A : aS} (hA : aOK A) {s k w : Int} (hs : 0 ≤ s ∧ s < 6) (hk : 0 ≤ k ∧ k < aB A) : -1 ≤ oBt A s k w ∧ oBt A s k w ≤ 400 := by
  have h1 := hA.2.1
  have h2 := hA.2.2.2.2.2.2.2 s k hs.1 hs.2 hk.1 hk.2
  unfold oBt
  by_cases e : aHe A s k = -1
  · rw [if_pos e]; omega
  · rw [if_neg e]
    have h3 := hA.2.2.2.2.1 (aHe A s k) (by omega) (by omega)
    split
    · omega
    · split
      · omega
      · split <;> omega
theorem smF_how (A : aS) (f u : Int) : ∀ n : Nat, -(n : Int) ≤ smF (how A f u) n ∧ smF (how A f u) n ≤ 3 * n
  | 0 => ⟨by show -((0 : Nat) : Int) ≤ 0; omega, by show (0 : Int) ≤ 3 * ((0 : Nat) : Int); omega⟩
  | n + 1 => by
    have h1 := smF_how A f u n
    have h2 := how_rng A f u n
    show -((n + 1 : Nat) : Int) ≤ smF (how A f u) n + how A f u n ∧ smF (how A f u) n + how A f u n ≤ 3 * ((n + 1 : Nat) : Int)
    omega
theorem sil_rng (A : aS) (n s : Int) : -1 ≤ sil A n s ∧ sil A n s ≤ 60 := by
  have h := fhF_eq (fun k => vce A s (aB A + k - 1)) n 60 1
  unfold sil
  split
  · omega
  · rcases h with h | h
    · omega
    · have h1 := h.1
      have h2 := h.2.1
      omega
theorem bst_rng {A : aS} (hA : aOK A) : 0 ≤ bst A ∧ bst A ≤ 5 := (bsF_rng hA 6 (by decide)).1
/-! a hash apart from all else -/
theorem sL_sL {h : xM} {a : Nat} {k : Int} {v w : Int64} : sL (sL h a k v) a k w = sL h a k w := by
  unfold sL
  refine Prod.ext rfl (Prod.ext rfl (Prod.ext rfl (Prod.ext rfl ?_)))
  funext b j
  show (if b = a ∧ j = k then w else if b = a ∧ j = k then v else h.2.2.2.2 b j) = if b = a ∧ j = k then w else h.2.2.2.2 b j
  by_cases e : b = a ∧ j = k
  · rw [if_pos e, if_pos e]
  · rw [if_neg e, if_neg e, if_neg e]
theorem mL_at {h : xM} {a : Nat} {k : Int} {v : Int64} : mL (sL h a k v) a k = v := by
  show (if a = a ∧ k = k then v else h.2.2.2.2 a k) = v
  rw [if_pos ⟨rfl, rfl⟩]
theorem sL_id (h : xM) (a : Nat) : sL h a 0 (mL h a 0) = h := by
  unfold sL
  refine Prod.ext rfl (Prod.ext rfl (Prod.ext rfl (Prod.ext rfl ?_)))
  funext b j
  show (if b = a ∧ j = 0 then mL h a 0 else h.2.2.2.2 b j) = h.2.2.2.2 b j
  by_cases e : b = a ∧ j = 0
  · rw [if_pos e, e.1, e.2]; rfl
  · rw [if_neg e]
theorem EF_sL {h g : xM} {x lo a : Nat} {v : Int64} (H : EF h g x lo) (ha : lo ≤ a) : EF h (sL g a 0 v) x lo := ⟨H.1, fun q h1 h2 => by
  obtain ⟨a1, a2, a3, a4⟩ := H.2 q h1 h2
  refine ⟨a1, a2, a3, ?_⟩
  rw [← a4]
  funext j
  show (if q = a ∧ j = 0 then v else g.2.2.2.2 q j) = g.2.2.2.2 q j
  rw [if_neg (by omega)]⟩
abbrev rm_D1 : Room := { frames := 0, cells := 0, slots := 0, locals := 0 }
abbrev rm_D2 : Room := { frames := 1, cells := 0, slots := 0, locals := 40 }
section XRD
variable {Ω : xO} {own : String} {cc : ByteArray} {nL : Nat} {ret : Option FieldType} {ini : Bool} {R : Room} {PR : Option xV → xM → Prop} {PX : String → xM → Prop} {kc ks pc pc' : Nat} {ls : List (Option xV)} {st : List xV} {h : xM}
end XRD
theorem fp_self {s : UInt64} (hs : shOK s) : Op.cmpValue (FP.dcmp s s) .l = Int32.ofInt 0 := by
  rcases hs with h | ⟨E, t, h1, h2, h3, h4⟩
  · rw [h]; decide +kernel
  · have hd : FP.dcmp s s = some .eq := by
      show FP.Core.order (FP.Core.decode FP.Core.b64 s.toNat) (FP.Core.decode FP.Core.b64 s.toNat) = _
      rw [h4, fpN_nat (by omega) h3, fp_dec h1 (by omega) h3]
      unfold FP.Core.order
      exact congrArg some (Int.compare_eq_eq.mpr rfl)
    rw [hd]
    rfl
set_option maxHeartbeats 4000000 in
set_option maxRecDepth 100000 in
theorem k_X3_share {Ω : xO} {h : xM} {a b : Nat} {A : aS} (hP : RpS h a b) (hR : RC h b A) : xCt Ω yX3_share cX3_share 3 (some .double) rm_X3_share [rf a] h (fun q h' => h = h' ∧ q = some (vd (shr A))) xNo := by
  refine xCt_of (ini := false) (by decide +kernel) (Nat.le_of_ble_eq_true rfl) (fun q => absurd q (by decide)) ?_
  generalize hPR : (fun q h' => h = h' ∧ q = some (vd (shr A)) : Option xV → xM → Prop) = PR
  have K0 : X Ω RX3 cX3_share 3 (some .double) false rm_X3_share PR xNo 0 0 0 [some (rf a), none, none] [] h := ?_
  exact K0
  have okA : aOK A := hR.1.2.1
  obtain ⟨okB, okN, okWl, okS, okW, okM, okC, okH⟩ := id hR.1.2.1
  refine X.aload_n (i := 0) rfl rfl dX3_share_0 (pc' := 1) rfl ?_
  refine X.getR fk_X3_9 xcl_3 dX3_share_1 hP.1 hP.2 (pc' := 4) rfl ?_
  refine X.getI (x := aB A) fk_X3_61 xcl_0 dX3_share_4 (by decide) hR.1.1.1 hR.1.2.2.1 (pc' := 7) rfl (fun r1 => ?_)
  obtain ⟨r1a, r1b⟩ := r1
  refine X.if_gt (tgt := 12) dX3_share_7 ⟨by omega, by omega⟩ (by decide) (pc' := 10) rfl (fun c7 => ?_) (fun c7 => ?_)
  · refine X.iconst dX3_share_12 (pc' := 13) rfl ?_
    refine X.istore_n (i := 1) (ls' := [some (rf a), some (vi 0), none]) (hi := rfl) (hd := dX3_share_13) (by decide) rfl rfl (pc' := 14) rfl ?_
    refine X.iconst dX3_share_14 (pc' := 15) rfl ?_
    refine X.istore_n (i := 2) (ls' := [some (rf a), some (vi 0), some (vi 0)]) (hi := rfl) (hd := dX3_share_15) (by decide) rfl rfl (pc' := 16) rfl ?_
    have L16 : ∀ (n16 : Nat) (c : Int) (t : Int), (6 - t).toNat < n16 → (0 ≤ t ∧ t ≤ 6 ∧ c = smF (hBt A) t.toNat) → X Ω RX3 cX3_share 3 (some .double) false rm_X3_share PR xNo 0 0 16 [some (rf a), some (vi c), some (vi t)] [] h := by
      intro n16
      induction n16 with
      | zero => intro c t hm _; exfalso; omega
      | succ n16 ih16 =>
        intro c t hm16 hinv
        obtain ⟨ht0, ht6, hc⟩ := hinv
        have hsm := smF_rng (g := hBt A) (B := 400) (fun k => ⟨(hBt_rng okA k).1, by have := (hBt_rng okA k).2; omega⟩) t.toNat
        refine X.iload_n (i := 2) rfl rfl dX3_share_16 (pc' := 17) rfl ?_
        refine X.bipush (by decide +kernel) dX3_share_17 (pc' := 19) rfl ?_
        refine X.icmp_ge (tgt := 36) dX3_share_19 ⟨by omega, by omega⟩ ⟨by omega, by omega⟩ (by decide) (pc' := 22) rfl (fun c19 => ?_) (fun c19 => ?_)
        · have e : t = 6 := by omega
          subst e
          have hc6 : c = shN A := by rw [hc, ← smF_sh]; rfl
          have hsh : aB A ≠ 0 → FP.ddiv (FP.i2d (Int32.ofInt c)) (FP.i2d (Int32.ofInt (6 * aB A))) = shr A := fun z => by unfold shr; rw [if_neg z, hc6]
          have hsr := shN_rng okA
          refine X.iload_n (i := 1) rfl rfl dX3_share_36 (pc' := 37) rfl ?_
          refine X.i2d dX3_share_37 (pc' := 38) rfl ?_
          refine X.bipush (by decide +kernel) dX3_share_38 (pc' := 40) rfl ?_
          refine X.aload_n (i := 0) rfl rfl dX3_share_40 (pc' := 41) rfl ?_
          refine X.getR fk_X3_9 xcl_3 dX3_share_41 hP.1 hP.2 (pc' := 44) rfl ?_
          refine X.getI (x := aB A) fk_X3_61 xcl_0 dX3_share_44 (by decide) hR.1.1.1 hR.1.2.2.1 (pc' := 47) rfl (fun r2 => ?_)
          obtain ⟨r2a, r2b⟩ := r2
          refine X.imul dX3_share_47 (pc' := 48) rfl ?_
          refine X.i2d dX3_share_48 (pc' := 49) rfl ?_
          have hsh2 := hsh (by omega)
          have hnn : vf_n64 (FP.ddiv (FP.i2d (Int32.ofInt c)) (FP.i2d (Int32.ofInt (6 * aB A)))) := by rw [hsh2]; exact (shr_ok okA).n64
          refine X.ddiv hnn dX3_share_49 (pc' := 50) rfl ?_
          refine X.dret dX3_share_50 rfl (Nat.le_of_ble_eq_true rfl) (Nat.le_of_ble_eq_true rfl) ?_
          subst hPR
          exact ⟨rfl, by rw [hsh2]⟩
        · refine X.iload_n (i := 1) rfl rfl dX3_share_22 (pc' := 23) rfl ?_
          refine X.aload_n (i := 0) rfl rfl dX3_share_23 (pc' := 24) rfl ?_
          refine X.iload_n (i := 2) rfl rfl dX3_share_24 (pc' := 25) rfl ?_
          refine X.callV (ci := 3) (a := a) (rm := rm_X3_heardBeats) (As := [vi t]) (st := [vi c]) dX3_share_25 ck_X3_51 rfl (by decide) hP.1 rfl rfl ⟨Nat.le_of_ble_eq_true rfl, Nat.le_of_ble_eq_true rfl⟩ (Nat.le_of_ble_eq_true rfl) (Nat.le_of_ble_eq_true rfl) (Nat.le_of_ble_eq_true rfl) (pc' := 28) rfl (k_X3_heardBeats hP hR ⟨by omega, by omega⟩) (fun q3 hq3 eq3 => ?_) (fun _ _ x1 => x1.elim)
          obtain ⟨rfl, y, rfl, hy⟩ := eq3
          refine X.iadd dX3_share_28 (pc' := 29) rfl ?_
          refine X.gen (fun c2 hc2 => ?_)
          refine X.istore_n (i := 1) (ls' := [some (rf a), some (vi c2), some (vi t)]) (hi := rfl) (hd := dX3_share_29) (by decide) rfl rfl (pc' := 30) rfl ?_
          refine X.iinc (i := 2) (ls' := [some (rf a), some (vi c2), some (vi (t + 1))]) dX3_share_30 rfl (by decide) rfl rfl (pc' := 33) rfl ?_
          refine X.goto (tgt := 16) dX3_share_33 (by decide) ?_
          refine ih16 c2 (t + 1) (by omega) ?_
          exact ⟨by omega, by omega, by rw [smF_at ht0, ← hc, ← hy]; omega⟩
    refine L16 _ 0 0 (Nat.lt_succ_self _) ?_
    exact ⟨by omega, by omega, rfl⟩
  · refine X.dconst0 dX3_share_10 (pc' := 11) rfl ?_
    refine X.dret dX3_share_11 rfl (Nat.le_of_ble_eq_true rfl) (Nat.le_of_ble_eq_true rfl) ?_
    subst hPR
    exact ⟨rfl, by unfold shr; rw [if_pos (by omega)]⟩
set_option maxHeartbeats 4000000 in
set_option maxRecDepth 100000 in
theorem k_X5_heardShare {Ω : xO} {h : xM} {x lo : Nat} {L : lS} (hE : EL h x lo L) : xCt Ω yX5_heardShare cX5_heardShare 1 (some .double) rm_X5_heardShare [rf x] h (fun q h' => h = h' ∧ q = some (vd (shr (lA L)))) xNo := by
  refine xCt_of (ini := false) (by decide +kernel) (Nat.le_of_ble_eq_true rfl) (fun q => absurd q (by decide)) ?_
  generalize hPR : (fun q h' => h = h' ∧ q = some (vd (shr (lA L))) : Option xV → xM → Prop) = PR
  have K0 : X Ω RX5 cX5_heardShare 1 (some .double) false rm_X5_heardShare PR xNo 0 0 0 [some (rf x)] [] h := ?_
  exact K0
  have okA : aOK (lA L) := hE.2.1.1.2.1
  obtain ⟨okB, okN, okWl, okS, okW, okM, okC, okH⟩ := id hE.2.1.1.2.1
  have hlo := hE.2.2.2.2.2.2
  have hz6 := hE.2.2.1.2.2.1
  have hnB : mI h (x + 1) 0 = aB (lA L) := hE.2.1.1.2.2.1
  have hnW : mI h (x + 1) 1 = aW (lA L) := hE.2.1.1.2.2.2.1
  have hHz : mI h (x + 31) 0 = lZ L := hE.2.2.1.2.1
  have hTn : mI h (x + 33) 0 = lTn L := hE.2.2.2.2.1.1
  have hTr := hE.2.2.2.2.1.2.1
  refine X.aload_n (i := 0) rfl rfl dX5_heardShare_0 (pc' := 1) rfl ?_
  refine X.getR fk_X5_21 xcl_5 dX5_heardShare_1 hE.1.1 hE.1.2.2.1 (pc' := 4) rfl ?_
  refine X.callV (ci := 3) (a := (x + 30)) (rm := rm_X3_share) (As := []) (st := []) dX5_heardShare_4 ck_X5_175 rfl (by decide) hE.1.2.2.2.2.2.2.1.1 rfl rfl ⟨Nat.le_of_ble_eq_true rfl, Nat.le_of_ble_eq_true rfl⟩ (Nat.le_of_ble_eq_true rfl) (Nat.le_of_ble_eq_true rfl) (Nat.le_of_ble_eq_true rfl) (pc' := 7) rfl (k_X3_share hE.1.2.2.2.2.2.2.1 hE.2.1) (fun q1 hq1 eq1 => ?_) (fun _ _ x1 => x1.elim)
  obtain ⟨rfl, rfl⟩ := eq1
  refine X.dret dX5_heardShare_7 rfl (Nat.le_of_ble_eq_true rfl) (Nat.le_of_ble_eq_true rfl) ?_
  subst hPR
  exact ⟨rfl, rfl⟩
set_option maxHeartbeats 4000000 in
set_option maxRecDepth 100000 in
theorem k_X1_bitsOf {Ω : xO} {h : xM} {E t : Nat} (h1 : 1 ≤ E) (h2 : E ≤ 1023) (h3 : t < 4503599627370496) : xCt Ω yX1_bitsOf cX1_bitsOf 6 (some .long) rm_X1_bitsOf [vd (fpN E t)] h (fun q h' => h = h' ∧ q = some (vl (fpN E t).toInt64)) xNo := by
  refine xCt_of (ini := false) (by decide +kernel) (Nat.le_of_ble_eq_true rfl) (fun q => absurd q (by decide)) ?_
  generalize hPR : (fun q h' => h = h' ∧ q = some (vl (fpN E t).toInt64) : Option xV → xM → Prop) = PR
  have K0 : X Ω RX1 cX1_bitsOf 6 (some .long) false rm_X1_bitsOf PR xNo 0 0 0 [some (vd (fpN E t)), none, none, none, none, none] [] h := ?_
  exact K0
  refine X.dload_n (i := 0) rfl rfl dX1_bitsOf_0 (pc' := 1) rfl ?_
  refine X.dconst0 dX1_bitsOf_1 (pc' := 2) rfl ?_
  refine X.dcmp (z := 1) (fp_gt0 h1 h2 h3) dX1_bitsOf_2 (pc' := 3) rfl ?_
  refine X.if_gt (tgt := 8) dX1_bitsOf_3 ⟨by omega, by omega⟩ (by decide) (pc' := 6) rfl (fun c3 => ?_) (fun c3 => by exfalso; omega)
  refine X.dload_n (i := 0) rfl rfl dX1_bitsOf_8 (pc' := 9) rfl ?_
  refine X.dstore_n (i := 2) (ls' := [some (vd (fpN E t)), none, some (vd (fpN E t)), none, none, none]) (hi := rfl) (hd := dX1_bitsOf_9) (by decide) rfl rfl (pc' := 10) rfl ?_
  refine X.sipush (by decide +kernel) dX1_bitsOf_10 (pc' := 13) rfl ?_
  refine X.istore (i := 4) (ls' := [some (vd (fpN E t)), none, some (vd (fpN E t)), none, some (vi 1023), none]) (hd := dX1_bitsOf_13) (by decide) rfl rfl (pc' := 15) rfl ?_
  refine X.iconst dX1_bitsOf_15 (pc' := 16) rfl ?_
  refine X.istore (i := 5) (ls' := [some (vd (fpN E t)), none, some (vd (fpN E t)), none, some (vi 1023), some (vi 0)]) (hd := dX1_bitsOf_16) (by decide) rfl rfl (pc' := 18) rfl ?_
  have L18 : ∀ (n18 : Nat) (s : UInt64) (x : Int) (j : Int), (1023 - j).toNat < n18 → (0 ≤ j ∧ E + j.toNat ≤ 1023 ∧ x = 1023 - j ∧ s = fpN (E + j.toNat) t) → X Ω RX1 cX1_bitsOf 6 (some .long) false rm_X1_bitsOf PR xNo 0 0 18 [some (vd (fpN E t)), none, some (vd s), none, some (vi x), some (vi j)] [] h := by
    intro n18
    induction n18 with
    | zero => intro s x j hm _; exfalso; omega
    | succ n18 ih18 =>
      intro s x j hm18 hinv
      obtain ⟨hj0, hj1, hx, hs⟩ := hinv
      refine X.iload (i := 5) rfl dX1_bitsOf_18 (pc' := 20) rfl ?_
      refine X.sipush (by decide +kernel) dX1_bitsOf_20 (pc' := 23) rfl ?_
      refine X.icmp_ge (tgt := 47) dX1_bitsOf_23 ⟨by omega, by omega⟩ ⟨by omega, by omega⟩ (by decide) (pc' := 26) rfl (fun c23 => by exfalso; omega) (fun c23 => ?_)
      refine X.dload_n (i := 2) rfl rfl dX1_bitsOf_26 (pc' := 27) rfl ?_
      obtain ⟨z28, hz28, hz28b⟩ := fp_cmp1 (E := E + j.toNat) (t := t) (by omega) hj1 h3
      rw [← hs] at hz28
      refine X.dconst1 dX1_bitsOf_27 (pc' := 28) rfl ?_
      refine X.dcmp (z := z28) hz28 dX1_bitsOf_28 (pc' := 29) rfl ?_
      refine X.if_ge (tgt := 47) dX1_bitsOf_29 ⟨by omega, by omega⟩ (by decide) (pc' := 32) rfl (fun c29 => ?_) (fun c29 => ?_)
      · have e1 : E + j.toNat = 1023 := by omega
        rw [e1] at hs
        have hn55 := fp_end h3
        rw [← hs] at hn55
        have hxE : x = (E : Int) := by omega
        refine X.iload (i := 4) rfl dX1_bitsOf_47 (pc' := 49) rfl ?_
        refine X.i2l ⟨by omega, by omega⟩ dX1_bitsOf_49 (pc' := 50) rfl ?_
        refine X.bipush (by decide +kernel) dX1_bitsOf_50 (pc' := 52) rfl ?_
        refine X.lshl (z := (Int64.ofInt x) <<< (52 : Int64)) (by rw [show (Int32.ofInt 52).toInt64 &&& 63 = (52 : Int64) by decide]) dX1_bitsOf_52 (pc' := 53) rfl ?_
        refine X.dload_n (i := 2) rfl rfl dX1_bitsOf_53 (pc' := 54) rfl ?_
        refine X.dconst1 dX1_bitsOf_54 (pc' := 55) rfl ?_
        refine X.dsub hn55.1 dX1_bitsOf_55 (pc' := 56) rfl ?_
        refine X.ldc2d (v := 4841369599423283200) wd_335 dX1_bitsOf_56 (pc' := 59) rfl ?_
        refine X.dmul hn55.2.1 dX1_bitsOf_59 (pc' := 60) rfl ?_
        refine X.d2l dX1_bitsOf_60 (pc' := 61) rfl ?_
        refine X.lor dX1_bitsOf_61 (pc' := 62) rfl ?_
        refine X.lret dX1_bitsOf_62 rfl (Nat.le_of_ble_eq_true rfl) (Nat.le_of_ble_eq_true rfl) ?_
        subst hPR
        exact ⟨rfl, by rw [hxE, hn55.2.2, fp_or h2 h3]⟩
      · have hm36 : FP.dmul s 4611686018427387904 = fpN (E + (j + 1).toNat) t := by
          rw [hs, fp_dbl (by omega) (by omega) h3, show (j + 1).toNat = j.toNat + 1 by omega]
          rfl
        have hn36 : vf_n64 (FP.dmul s 4611686018427387904) := by rw [hm36]; exact fp_n64 (by rw [fpN_nat (by omega) h3]; omega)
        refine X.dload_n (i := 2) rfl rfl dX1_bitsOf_32 (pc' := 33) rfl ?_
        refine X.ldc2d (v := 4611686018427387904) wd_334 dX1_bitsOf_33 (pc' := 36) rfl ?_
        refine X.dmul hn36 dX1_bitsOf_36 (pc' := 37) rfl ?_
        refine X.dstore_n (i := 2) (ls' := [some (vd (fpN E t)), none, some (vd (FP.dmul s 4611686018427387904)), none, some (vi x), some (vi j)]) (hi := rfl) (hd := dX1_bitsOf_37) (by decide) rfl rfl (pc' := 38) rfl ?_
        refine X.iinc (i := 4) (ls' := [some (vd (fpN E t)), none, some (vd (FP.dmul s 4611686018427387904)), none, some (vi (x + (-1))), some (vi j)]) dX1_bitsOf_38 rfl (by decide) rfl rfl (pc' := 41) rfl ?_
        refine X.iinc (i := 5) (ls' := [some (vd (fpN E t)), none, some (vd (FP.dmul s 4611686018427387904)), none, some (vi (x + (-1))), some (vi (j + 1))]) dX1_bitsOf_41 rfl (by decide) rfl rfl (pc' := 44) rfl ?_
        refine X.goto (tgt := 18) dX1_bitsOf_44 (by decide) ?_
        refine ih18 (FP.dmul s 4611686018427387904) (x + (-1)) (j + 1) (by omega) ?_
        exact ⟨by omega, by omega, by omega, hm36⟩
  refine L18 _ (fpN E t) 1023 0 (Nat.lt_succ_self _) ?_
  exact ⟨by omega, by show E + 0 ≤ 1023; omega, by omega, rfl⟩
set_option maxHeartbeats 4000000 in
set_option maxRecDepth 100000 in
theorem k_X1_bitsOf0 {Ω : xO} {h : xM}  : xCt Ω yX1_bitsOf cX1_bitsOf 6 (some .long) rm_X1_bitsOf [vd 0] h (fun q h' => h = h' ∧ q = some (vl (0 : UInt64).toInt64)) xNo := by
  refine xCt_of (ini := false) (by decide +kernel) (Nat.le_of_ble_eq_true rfl) (fun q => absurd q (by decide)) ?_
  generalize hPR : (fun q h' => h = h' ∧ q = some (vl (0 : UInt64).toInt64) : Option xV → xM → Prop) = PR
  have K0 : X Ω RX1 cX1_bitsOf 6 (some .long) false rm_X1_bitsOf PR xNo 0 0 0 [some (vd 0), none, none, none, none, none] [] h := ?_
  exact K0
  refine X.dload_n (i := 0) rfl rfl dX1_bitsOf_0 (pc' := 1) rfl ?_
  refine X.dconst0 dX1_bitsOf_1 (pc' := 2) rfl ?_
  refine X.dcmp (z := 0) (by decide +kernel) dX1_bitsOf_2 (pc' := 3) rfl ?_
  refine X.if_gt (tgt := 8) dX1_bitsOf_3 ⟨by omega, by omega⟩ (by decide) (pc' := 6) rfl (fun c3 => by exfalso; omega) (fun c3 => ?_)
  refine X.lconst (v := 0) rfl dX1_bitsOf_6 (pc' := 7) rfl ?_
  refine X.lret dX1_bitsOf_7 rfl (Nat.le_of_ble_eq_true rfl) (Nat.le_of_ble_eq_true rfl) ?_
  subst hPR
  exact ⟨rfl, rfl⟩
theorem k_X1_bitsOfS {Ω : xO} {h : xM} {s : UInt64} (hs : shOK s) : xCt Ω yX1_bitsOf cX1_bitsOf 6 (some .long) rm_X1_bitsOf [vd s] h (fun q h' => h = h' ∧ q = some (vl s.toInt64)) xNo := by
  rcases hs with hs | ⟨E, t, h1, h2, h3, h4⟩
  · subst hs
    exact k_X1_bitsOf0
  · subst h4
    exact k_X1_bitsOf h1 h2 h3
set_option maxHeartbeats 4000000 in
set_option maxRecDepth 100000 in
theorem k_X5_takeSpeakers {Ω : xO} {h : xM} {x a lo : Nat} {L : lS} (hE : EL h x lo L) (ha : mT h a = some (1, 1)) : xCt Ω yX5_takeSpeakers cX5_takeSpeakers 4 none rm_X5_takeSpeakers [rf x, rf a] h (fun q h' => q = none ∧ h' = sL h a 0 (dgS (lA L) (mL h a 0))) xNo := by
  refine xCt_of (ini := false) (by decide +kernel) (Nat.le_of_ble_eq_true rfl) (fun q => absurd q (by decide)) ?_
  generalize hPR : (fun q h' => q = none ∧ h' = sL h a 0 (dgS (lA L) (mL h a 0)) : Option xV → xM → Prop) = PR
  have K0 : X Ω RX5 cX5_takeSpeakers 4 none false rm_X5_takeSpeakers PR xNo 0 0 0 [some (rf x), some (rf a), none, none] [] h := ?_
  exact K0
  have okA : aOK (lA L) := hE.2.1.1.2.1
  obtain ⟨okB, okN, okWl, okS, okW, okM, okC, okH⟩ := id hE.2.1.1.2.1
  have hlo := hE.2.2.2.2.2.2
  have hz6 := hE.2.2.1.2.2.1
  have hnB : mI h (x + 1) 0 = aB (lA L) := hE.2.1.1.2.2.1
  have hnW : mI h (x + 1) 1 = aW (lA L) := hE.2.1.1.2.2.2.1
  have hHz : mI h (x + 31) 0 = lZ L := hE.2.2.1.2.1
  have hTn : mI h (x + 33) 0 = lTn L := hE.2.2.2.2.1.1
  have hTr := hE.2.2.2.2.1.2.1
  rw [← sL_id h a]
  refine X.iconst dX5_takeSpeakers_0 (pc' := 1) rfl ?_
  refine X.istore_n (i := 2) (ls' := [some (rf x), some (rf a), some (vi 0), none]) (hi := rfl) (hd := dX5_takeSpeakers_1) (by decide) rfl rfl (pc' := 2) rfl ?_
  have L2 : ∀ (n2 : Nat) (v : Int64) (s : Int), (6 - s).toNat < n2 → (0 ≤ s ∧ s ≤ 6 ∧ v = itF (dsS (lA L)) (mL h a 0) s.toNat) → X Ω RX5 cX5_takeSpeakers 4 none false rm_X5_takeSpeakers PR xNo 0 0 2 [some (rf x), some (rf a), some (vi s), none] [] ((sL h a 0 v)) := by
    intro n2
    induction n2 with
    | zero => intro v s hm _; exfalso; omega
    | succ n2 ih2 =>
      intro v s hm2 hinv
      obtain ⟨hs0, hs6, hv⟩ := hinv
      refine X.iload_n (i := 2) rfl rfl dX5_takeSpeakers_2 (pc' := 3) rfl ?_
      refine X.bipush (by decide +kernel) dX5_takeSpeakers_3 (pc' := 5) rfl ?_
      refine X.icmp_ge (tgt := 62) dX5_takeSpeakers_5 ⟨by omega, by omega⟩ ⟨by omega, by omega⟩ (by decide) (pc' := 8) rfl (fun c5 => ?_) (fun c5 => ?_)
      · refine X.vret dX5_takeSpeakers_62 rfl (Nat.le_of_ble_eq_true rfl) (Nat.le_of_ble_eq_true rfl) ?_
        subst hPR
        have e : s = 6 := by omega
        subst e
        exact ⟨rfl, by rw [hv]; rfl⟩
      · refine X.iconst dX5_takeSpeakers_8 (pc' := 9) rfl ?_
        refine X.istore_n (i := 3) (ls' := [some (rf x), some (rf a), some (vi s), some (vi 0)]) (hi := rfl) (hd := dX5_takeSpeakers_9) (by decide) rfl rfl (pc' := 10) rfl ?_
        have L10 : ∀ (n10 : Nat) (z : Int64) (w : Int), (8 - w).toNat < n10 → (0 ≤ w ∧ w ≤ 8 ∧ z = itF (fun k => tkV (oSp (lA L) s k)) v w.toNat) → X Ω RX5 cX5_takeSpeakers 4 none false rm_X5_takeSpeakers PR xNo 0 0 10 [some (rf x), some (rf a), some (vi s), some (vi w)] [] ((sL h a 0 z)) := by
          intro n10
          induction n10 with
          | zero => intro z w hm _; exfalso; omega
          | succ n10 ih10 =>
            intro z w hm10 hinv
            obtain ⟨hw0, hw8, hz⟩ := hinv
            refine X.iload_n (i := 3) rfl rfl dX5_takeSpeakers_10 (pc' := 11) rfl ?_
            refine X.bipush (by decide +kernel) dX5_takeSpeakers_11 (pc' := 13) rfl ?_
            refine X.icmp_gt (tgt := 36) dX5_takeSpeakers_13 ⟨by omega, by omega⟩ ⟨by omega, by omega⟩ (by decide) (pc' := 16) rfl (fun c13 => ?_) (fun c13 => ?_)
            · refine X.aload_n (i := 1) rfl rfl dX5_takeSpeakers_36 (pc' := 37) rfl ?_
              refine X.aload_n (i := 0) rfl rfl dX5_takeSpeakers_37 (pc' := 38) rfl ?_
              refine X.getR fk_X5_10 xcl_5 dX5_takeSpeakers_38 hE.1.1 hE.1.2.1 (pc' := 41) rfl ?_
              refine X.iload_n (i := 2) rfl rfl dX5_takeSpeakers_41 (pc' := 42) rfl ?_
              refine X.aload_n (i := 0) rfl rfl dX5_takeSpeakers_42 (pc' := 43) rfl ?_
              refine X.getR fk_X5_10 xcl_5 dX5_takeSpeakers_43 hE.1.1 hE.1.2.1 (pc' := 46) rfl ?_
              refine X.getI (x := aB (lA L)) fk_X5_78 xcl_0 dX5_takeSpeakers_46 (by decide) hE.2.1.1.1.1 hE.2.1.1.2.2.1 (pc' := 49) rfl (fun r1 => ?_)
              obtain ⟨r1a, r1b⟩ := r1
              refine X.callV (ci := 0) (a := (x + 1)) (rm := rm_X0_secondLast) (As := [vi s, vi (aB (lA L))]) (st := [rf a]) dX5_takeSpeakers_49 ck_X5_166 rfl (by decide) hE.2.1.1.1.1 rfl rfl ⟨Nat.le_of_ble_eq_true rfl, Nat.le_of_ble_eq_true rfl⟩ (Nat.le_of_ble_eq_true rfl) (Nat.le_of_ble_eq_true rfl) (Nat.le_of_ble_eq_true rfl) (pc' := 52) rfl (k_X0_secondLast (h := (sL h a 0 z)) hE.2.1.1 ⟨by omega, by omega⟩ ⟨by omega, by omega⟩) (fun q2 hq2 eq2 => ?_) (fun _ _ x1 => x1.elim)
              obtain ⟨rfl, y, rfl, hy⟩ := eq2
              have hyr := vce_rng okA s (aB (lA L)) (by omega) (by omega)
              refine X.i2l ⟨by omega, by omega⟩ dX5_takeSpeakers_52 (pc' := 53) rfl ?_
              refine X.callV (ci := 1) (a := a) (rm := rm_X1_take) (As := [vl (Int64.ofInt y)]) (st := []) dX5_takeSpeakers_53 ck_X5_182 rfl (by decide) ha rfl rfl ⟨Nat.le_of_ble_eq_true rfl, Nat.le_of_ble_eq_true rfl⟩ (Nat.le_of_ble_eq_true rfl) (Nat.le_of_ble_eq_true rfl) (Nat.le_of_ble_eq_true rfl) (pc' := 56) rfl (k_X1_take (h := (sL h a 0 z)) ha) (fun q3 hq3 eq3 => ?_) (fun _ _ x1 => x1.elim)
              obtain ⟨rfl, rfl⟩ := eq3
              rw [sL_sL, mL_at]
              refine X.iinc (i := 2) (ls' := [some (rf x), some (rf a), some (vi (s + 1)), some (vi w)]) dX5_takeSpeakers_56 rfl (by decide) rfl rfl (pc' := 59) rfl ?_
              refine X.goto (tgt := 2) dX5_takeSpeakers_59 (by decide) ?_
              refine X.mask (bs := [true, true, true, false]) (ls' := [some (rf x), some (rf a), some (vi (s + 1)), none]) rfl ?_
              refine ih2 ((31 * z + Int64.ofInt y)) (s + 1) (by omega) ?_
              exact ⟨by omega, by omega, by rw [itF_at hs0, ← hv, hy, hz, show w = 8 by omega]; rfl⟩
            · refine X.aload_n (i := 1) rfl rfl dX5_takeSpeakers_16 (pc' := 17) rfl ?_
              refine X.aload_n (i := 0) rfl rfl dX5_takeSpeakers_17 (pc' := 18) rfl ?_
              refine X.getR fk_X5_21 xcl_5 dX5_takeSpeakers_18 hE.1.1 hE.1.2.2.1 (pc' := 21) rfl ?_
              refine X.iload_n (i := 2) rfl rfl dX5_takeSpeakers_21 (pc' := 22) rfl ?_
              refine X.iload_n (i := 3) rfl rfl dX5_takeSpeakers_22 (pc' := 23) rfl ?_
              refine X.callV (ci := 3) (a := (x + 30)) (rm := rm_X3_ofSpeaker) (As := [vi s, vi w]) (st := [rf a]) dX5_takeSpeakers_23 ck_X5_153 rfl (by decide) hE.1.2.2.2.2.2.2.1.1 rfl rfl ⟨Nat.le_of_ble_eq_true rfl, Nat.le_of_ble_eq_true rfl⟩ (Nat.le_of_ble_eq_true rfl) (Nat.le_of_ble_eq_true rfl) (Nat.le_of_ble_eq_true rfl) (pc' := 26) rfl (k_X3_ofSpeaker (h := (sL h a 0 z)) hE.1.2.2.2.2.2.2.1 hE.2.1 ⟨by omega, by omega⟩ ⟨by omega, by omega⟩) (fun q4 hq4 eq4 => ?_) (fun _ _ x1 => x1.elim)
              obtain ⟨rfl, r, rfl, hr⟩ := eq4
              have hrr := oSp_rng okA (s := s) (w := w) ⟨by omega, by omega⟩
              refine X.i2l ⟨by omega, by omega⟩ dX5_takeSpeakers_26 (pc' := 27) rfl ?_
              refine X.callV (ci := 1) (a := a) (rm := rm_X1_take) (As := [vl (Int64.ofInt r)]) (st := []) dX5_takeSpeakers_27 ck_X5_182 rfl (by decide) ha rfl rfl ⟨Nat.le_of_ble_eq_true rfl, Nat.le_of_ble_eq_true rfl⟩ (Nat.le_of_ble_eq_true rfl) (Nat.le_of_ble_eq_true rfl) (Nat.le_of_ble_eq_true rfl) (pc' := 30) rfl (k_X1_take (h := (sL h a 0 z)) ha) (fun q5 hq5 eq5 => ?_) (fun _ _ x1 => x1.elim)
              obtain ⟨rfl, rfl⟩ := eq5
              rw [sL_sL, mL_at]
              refine X.iinc (i := 3) (ls' := [some (rf x), some (rf a), some (vi s), some (vi (w + 1))]) dX5_takeSpeakers_30 rfl (by decide) rfl rfl (pc' := 33) rfl ?_
              refine X.goto (tgt := 10) dX5_takeSpeakers_33 (by decide) ?_
              refine ih10 ((31 * z + Int64.ofInt r)) (w + 1) (by omega) ?_
              exact ⟨by omega, by omega, by rw [itF_at hw0, ← hz, hr]; rfl⟩
        refine L10 _ v 0 (Nat.lt_succ_self _) ?_
        exact ⟨by omega, by omega, rfl⟩
  refine L2 _ (mL h a 0) 0 (Nat.lt_succ_self _) ?_
  exact ⟨by omega, by omega, rfl⟩
set_option maxHeartbeats 4000000 in
set_option maxRecDepth 100000 in
theorem k_X5_takeLatestWords {Ω : xO} {h : xM} {x a lo : Nat} {L : lS} (hE : EL h x lo L) (ha : mT h a = some (1, 1)) : xCt Ω yX5_takeLatestWords cX5_takeLatestWords 5 none rm_X5_takeLatestWords [rf x, rf a] h (fun q h' => q = none ∧ h' = sL h a 0 (dgW (lA L) (mL h a 0))) xNo := by
  refine xCt_of (ini := false) (by decide +kernel) (Nat.le_of_ble_eq_true rfl) (fun q => absurd q (by decide)) ?_
  generalize hPR : (fun q h' => q = none ∧ h' = sL h a 0 (dgW (lA L) (mL h a 0)) : Option xV → xM → Prop) = PR
  have K0 : X Ω RX5 cX5_takeLatestWords 5 none false rm_X5_takeLatestWords PR xNo 0 0 0 [some (rf x), some (rf a), none, none, none] [] h := ?_
  exact K0
  have okA : aOK (lA L) := hE.2.1.1.2.1
  obtain ⟨okB, okN, okWl, okS, okW, okM, okC, okH⟩ := id hE.2.1.1.2.1
  have hlo := hE.2.2.2.2.2.2
  have hz6 := hE.2.2.1.2.2.1
  have hnB : mI h (x + 1) 0 = aB (lA L) := hE.2.1.1.2.2.1
  have hnW : mI h (x + 1) 1 = aW (lA L) := hE.2.1.1.2.2.2.1
  have hHz : mI h (x + 31) 0 = lZ L := hE.2.2.1.2.1
  have hTn : mI h (x + 33) 0 = lTn L := hE.2.2.2.2.1.1
  have hTr := hE.2.2.2.2.1.2.1
  rw [← sL_id h a]
  refine X.iconst dX5_takeLatestWords_0 (pc' := 1) rfl ?_
  refine X.aload_n (i := 0) rfl rfl dX5_takeLatestWords_1 (pc' := 2) rfl ?_
  refine X.getR fk_X5_10 xcl_5 dX5_takeLatestWords_2 hE.1.1 hE.1.2.1 (pc' := 5) rfl ?_
  refine X.getI (x := aW (lA L)) fk_X5_116 xcl_0 dX5_takeLatestWords_5 (by decide) hE.2.1.1.1.1 hE.2.1.1.2.2.2.1 (pc' := 8) rfl (fun r1 => ?_)
  obtain ⟨r1a, r1b⟩ := r1
  refine X.bipush (by decide +kernel) dX5_takeLatestWords_8 (pc' := 10) rfl ?_
  refine X.isub dX5_takeLatestWords_10 (pc' := 11) rfl ?_
  refine X.mmax dX5_takeLatestWords_11 wd_303 wd_193 wd_31 wd_194 ⟨Nat.le_of_ble_eq_true rfl, Nat.le_of_ble_eq_true rfl, Nat.le_of_ble_eq_true rfl, Nat.le_of_ble_eq_true rfl⟩ ⟨by omega, by omega⟩ ⟨by omega, by omega⟩ (pc' := 14) rfl (fun z2 hz2 => ?_)
  refine X.gen (fun od hod => ?_)
  refine X.istore_n (i := 2) (ls' := [some (rf x), some (rf a), some (vi od), none, none]) (hi := rfl) (hd := dX5_takeLatestWords_14) (by decide) rfl rfl (pc' := 15) rfl ?_
  refine X.aload_n (i := 0) rfl rfl dX5_takeLatestWords_15 (pc' := 16) rfl ?_
  refine X.getR fk_X5_10 xcl_5 dX5_takeLatestWords_16 hE.1.1 hE.1.2.1 (pc' := 19) rfl ?_
  refine X.getI (x := aW (lA L)) fk_X5_116 xcl_0 dX5_takeLatestWords_19 (by decide) hE.2.1.1.1.1 hE.2.1.1.2.2.2.1 (pc' := 22) rfl (fun r3 => ?_)
  obtain ⟨r3a, r3b⟩ := r3
  refine X.iconst dX5_takeLatestWords_22 (pc' := 23) rfl ?_
  refine X.isub dX5_takeLatestWords_23 (pc' := 24) rfl ?_
  refine X.gen (fun n0 hn0 => ?_)
  refine X.istore_n (i := 3) (ls' := [some (rf x), some (rf a), some (vi od), some (vi n0), none]) (hi := rfl) (hd := dX5_takeLatestWords_24) (by decide) rfl rfl (pc' := 25) rfl ?_
  have L25 : ∀ (n25 : Nat) (v : Int64) (n : Int), (n + 1).toNat < n25 → (od - 1 ≤ n ∧ n ≤ aW (lA L) - 1 ∧ v = itF (fun i => dwW (lA L) (aW (lA L) - 1 - i)) (mL h a 0) (aW (lA L) - 1 - n).toNat) → X Ω RX5 cX5_takeLatestWords 5 none false rm_X5_takeLatestWords PR xNo 0 0 25 [some (rf x), some (rf a), some (vi od), some (vi n), none] [] ((sL h a 0 v)) := by
    intro n25
    induction n25 with
    | zero => intro v n hm _; exfalso; omega
    | succ n25 ih25 =>
      intro v n hm25 hinv
      obtain ⟨hn0, hn1, hv⟩ := hinv
      have hodr : 0 ≤ od ∧ (od = 0 ∨ od = aW (lA L) - 12) ∧ aW (lA L) - 12 ≤ od := by omega
      refine X.iload_n (i := 3) rfl rfl dX5_takeLatestWords_25 (pc' := 26) rfl ?_
      refine X.iload_n (i := 2) rfl rfl dX5_takeLatestWords_26 (pc' := 27) rfl ?_
      refine X.icmp_lt (tgt := 114) dX5_takeLatestWords_27 ⟨by omega, by omega⟩ ⟨by omega, by omega⟩ (by decide) (pc' := 30) rfl (fun c27 => ?_) (fun c27 => ?_)
      · refine X.vret dX5_takeLatestWords_114 rfl (Nat.le_of_ble_eq_true rfl) (Nat.le_of_ble_eq_true rfl) ?_
        subst hPR
        have e : (aW (lA L) - 1 - n).toNat = (lstN (aW (lA L)) 12).toNat := by unfold lstN; split <;> omega
        exact ⟨rfl, by rw [hv, e]; rfl⟩
      · refine X.iconst dX5_takeLatestWords_30 (pc' := 31) rfl ?_
        refine X.istore (i := 4) (ls' := [some (rf x), some (rf a), some (vi od), some (vi n), some (vi 0)]) (hd := dX5_takeLatestWords_31) (by decide) rfl rfl (pc' := 33) rfl ?_
        have L33 : ∀ (n33 : Nat) (z : Int64) (w : Int), (6 - w).toNat < n33 → (0 ≤ w ∧ w ≤ 6 ∧ z = itF (fun k => tkV (oWd (lA L) n k)) v w.toNat) → X Ω RX5 cX5_takeLatestWords 5 none false rm_X5_takeLatestWords PR xNo 0 0 33 [some (rf x), some (rf a), some (vi od), some (vi n), some (vi w)] [] ((sL h a 0 z)) := by
          intro n33
          induction n33 with
          | zero => intro z w hm _; exfalso; omega
          | succ n33 ih33 =>
            intro z w hm33 hinv
            obtain ⟨hw0, hw8, hz⟩ := hinv
            refine X.iload (i := 4) rfl dX5_takeLatestWords_33 (pc' := 35) rfl ?_
            refine X.iconst dX5_takeLatestWords_35 (pc' := 36) rfl ?_
            refine X.icmp_gt (tgt := 60) dX5_takeLatestWords_36 ⟨by omega, by omega⟩ ⟨by omega, by omega⟩ (by decide) (pc' := 39) rfl (fun c36 => ?_) (fun c36 => ?_)
            · refine X.iconst dX5_takeLatestWords_60 (pc' := 61) rfl ?_
              refine X.istore (i := 4) (ls' := [some (rf x), some (rf a), some (vi od), some (vi n), some (vi 0)]) (hd := dX5_takeLatestWords_61) (by decide) rfl rfl (pc' := 63) rfl ?_
              have L63 : ∀ (n63 : Nat) (y : Int64) (t : Int), (6 - t).toNat < n63 → (0 ≤ t ∧ t ≤ 6 ∧ y = itF (dwS (lA L) n) z t.toNat) → X Ω RX5 cX5_takeLatestWords 5 none false rm_X5_takeLatestWords PR xNo 0 0 63 [some (rf x), some (rf a), some (vi od), some (vi n), some (vi t)] [] ((sL h a 0 y)) := by
                intro n63
                induction n63 with
                | zero => intro y t hm _; exfalso; omega
                | succ n63 ih63 =>
                  intro y t hm63 hinv
                  obtain ⟨ht0, ht6, hy⟩ := hinv
                  refine X.iload (i := 4) rfl dX5_takeLatestWords_63 (pc' := 65) rfl ?_
                  refine X.bipush (by decide +kernel) dX5_takeLatestWords_65 (pc' := 67) rfl ?_
                  refine X.icmp_ge (tgt := 108) dX5_takeLatestWords_67 ⟨by omega, by omega⟩ ⟨by omega, by omega⟩ (by decide) (pc' := 70) rfl (fun c67 => ?_) (fun c67 => ?_)
                  · refine X.iinc (i := 3) (ls' := [some (rf x), some (rf a), some (vi od), some (vi (n + (-1))), some (vi t)]) dX5_takeLatestWords_108 rfl (by decide) rfl rfl (pc' := 111) rfl ?_
                    refine X.goto (tgt := 25) dX5_takeLatestWords_111 (by decide) ?_
                    refine X.mask (bs := [true, true, true, true, false]) (ls' := [some (rf x), some (rf a), some (vi od), some (vi (n + (-1))), none]) rfl ?_
                    refine ih25 y (n + (-1)) (by omega) ?_
                    refine ⟨by omega, by omega, ?_⟩
                    rw [show aW (lA L) - 1 - (n + -1) = aW (lA L) - 1 - n + 1 by omega, itF_at (by omega), ← hv]
                    show _ = dwW (lA L) (aW (lA L) - 1 - (aW (lA L) - 1 - n)) v
                    rw [show aW (lA L) - 1 - (aW (lA L) - 1 - n) = n by omega, hy, hz, show t = 6 by omega, show w = 6 by omega]
                    rfl
                  · refine X.aload_n (i := 1) rfl rfl dX5_takeLatestWords_70 (pc' := 71) rfl ?_
                    refine X.aload_n (i := 0) rfl rfl dX5_takeLatestWords_71 (pc' := 72) rfl ?_
                    refine X.getR fk_X5_10 xcl_5 dX5_takeLatestWords_72 hE.1.1 hE.1.2.1 (pc' := 75) rfl ?_
                    refine X.getR fk_X5_146 xcl_0 dX5_takeLatestWords_75 hE.2.1.1.1.1 hE.2.1.1.1.2.2.2.2.2.2.2.1.1 (pc' := 78) rfl ?_
                    refine X.iload (i := 4) rfl dX5_takeLatestWords_78 (pc' := 80) rfl ?_
                    refine X.aald13 dX5_takeLatestWords_80 hE.2.1.1.1.2.2.2.2.2.2.2.1.2 (by omega) (by omega) ⟨by omega, by omega⟩ (hE.2.1.1.1.2.2.2.2.2.2.2.2.2.2.2.1 (t) (by omega) (by omega)).1 (pc' := 81) rfl ?_
                    refine X.iload_n (i := 3) rfl rfl dX5_takeLatestWords_81 (pc' := 82) rfl ?_
                    refine X.iald (x := aCo (lA L) t n) dX5_takeLatestWords_82 (hE.2.1.1.1.2.2.2.2.2.2.2.2.2.2.2.1 (t) (by omega) (by omega)).2 (by omega) (by omega) ⟨by omega, by omega⟩ (hE.2.1.1.2.2.2.2.2.2.2.2.2.2 t n (by omega) (by omega) (by omega) (by omega)) (pc' := 83) rfl (fun r4 => ?_)
                    obtain ⟨r4a, r4b⟩ := r4
                    have r4c := hE.2.1.1.2.1.2.2.2.2.2.2.1 t n (by omega) (by omega) (by omega) (by omega)
                    refine X.i2l ⟨by omega, by omega⟩ dX5_takeLatestWords_83 (pc' := 84) rfl ?_
                    refine X.callV (ci := 1) (a := a) (rm := rm_X1_take) (As := [vl (Int64.ofInt (aCo (lA L) t n))]) (st := []) dX5_takeLatestWords_84 ck_X5_182 rfl (by decide) ha rfl rfl ⟨Nat.le_of_ble_eq_true rfl, Nat.le_of_ble_eq_true rfl⟩ (Nat.le_of_ble_eq_true rfl) (Nat.le_of_ble_eq_true rfl) (Nat.le_of_ble_eq_true rfl) (pc' := 87) rfl (k_X1_take (h := (sL h a 0 y)) ha) (fun q5 hq5 eq5 => ?_) (fun _ _ x1 => x1.elim)
                    obtain ⟨rfl, rfl⟩ := eq5
                    rw [sL_sL, mL_at]
                    refine X.aload_n (i := 1) rfl rfl dX5_takeLatestWords_87 (pc' := 88) rfl ?_
                    refine X.aload_n (i := 0) rfl rfl dX5_takeLatestWords_88 (pc' := 89) rfl ?_
                    refine X.getR fk_X5_21 xcl_5 dX5_takeLatestWords_89 hE.1.1 hE.1.2.2.1 (pc' := 92) rfl ?_
                    refine X.iload_n (i := 3) rfl rfl dX5_takeLatestWords_92 (pc' := 93) rfl ?_
                    refine X.iload (i := 4) rfl dX5_takeLatestWords_93 (pc' := 95) rfl ?_
                    refine X.callV (ci := 3) (a := (x + 30)) (rm := rm_X3_whyUnheard) (As := [vi n, vi t]) (st := [rf a]) dX5_takeLatestWords_95 ck_X5_163 rfl (by decide) hE.1.2.2.2.2.2.2.1.1 rfl rfl ⟨Nat.le_of_ble_eq_true rfl, Nat.le_of_ble_eq_true rfl⟩ (Nat.le_of_ble_eq_true rfl) (Nat.le_of_ble_eq_true rfl) (Nat.le_of_ble_eq_true rfl) (pc' := 98) rfl (k_X3_whyUnheard (h := (sL h a 0 (31 * y + Int64.ofInt (aCo (lA L) t n)))) hE.1.2.2.2.2.2.2.1 hE.2.1 ⟨by omega, by omega⟩ ⟨by omega, by omega⟩) (fun q6 hq6 eq6 => ?_) (fun _ _ x1 => x1.elim)
                    obtain ⟨rfl, u, rfl, hu⟩ := eq6
                    have hur := why_rng (lA L) n t
                    refine X.i2l ⟨by omega, by omega⟩ dX5_takeLatestWords_98 (pc' := 99) rfl ?_
                    refine X.callV (ci := 1) (a := a) (rm := rm_X1_take) (As := [vl (Int64.ofInt u)]) (st := []) dX5_takeLatestWords_99 ck_X5_182 rfl (by decide) ha rfl rfl ⟨Nat.le_of_ble_eq_true rfl, Nat.le_of_ble_eq_true rfl⟩ (Nat.le_of_ble_eq_true rfl) (Nat.le_of_ble_eq_true rfl) (Nat.le_of_ble_eq_true rfl) (pc' := 102) rfl (k_X1_take (h := (sL h a 0 (31 * y + Int64.ofInt (aCo (lA L) t n)))) ha) (fun q7 hq7 eq7 => ?_) (fun _ _ x1 => x1.elim)
                    obtain ⟨rfl, rfl⟩ := eq7
                    rw [sL_sL, mL_at]
                    refine X.iinc (i := 4) (ls' := [some (rf x), some (rf a), some (vi od), some (vi n), some (vi (t + 1))]) dX5_takeLatestWords_102 rfl (by decide) rfl rfl (pc' := 105) rfl ?_
                    refine X.goto (tgt := 63) dX5_takeLatestWords_105 (by decide) ?_
                    refine ih63 ((31 * ((31 * y + Int64.ofInt (aCo (lA L) t n))) + Int64.ofInt u)) (t + 1) (by omega) ?_
                    exact ⟨by omega, by omega, by rw [itF_at ht0, ← hy, hu]; rfl⟩
              refine L63 _ z 0 (Nat.lt_succ_self _) ?_
              exact ⟨by omega, by omega, rfl⟩
            · refine X.aload_n (i := 1) rfl rfl dX5_takeLatestWords_39 (pc' := 40) rfl ?_
              refine X.aload_n (i := 0) rfl rfl dX5_takeLatestWords_40 (pc' := 41) rfl ?_
              refine X.getR fk_X5_21 xcl_5 dX5_takeLatestWords_41 hE.1.1 hE.1.2.2.1 (pc' := 44) rfl ?_
              refine X.iload_n (i := 3) rfl rfl dX5_takeLatestWords_44 (pc' := 45) rfl ?_
              refine X.iload (i := 4) rfl dX5_takeLatestWords_45 (pc' := 47) rfl ?_
              refine X.callV (ci := 3) (a := (x + 30)) (rm := rm_X3_ofWord) (As := [vi n, vi w]) (st := [rf a]) dX5_takeLatestWords_47 ck_X5_142 rfl (by decide) hE.1.2.2.2.2.2.2.1.1 rfl rfl ⟨Nat.le_of_ble_eq_true rfl, Nat.le_of_ble_eq_true rfl⟩ (Nat.le_of_ble_eq_true rfl) (Nat.le_of_ble_eq_true rfl) (Nat.le_of_ble_eq_true rfl) (pc' := 50) rfl (k_X3_ofWord (h := (sL h a 0 z)) hE.1.2.2.2.2.2.2.1 hE.2.1 ⟨by omega, by omega⟩ ⟨by omega, by omega⟩) (fun q8 hq8 eq8 => ?_) (fun _ _ x1 => x1.elim)
              obtain ⟨rfl, r, rfl, hr⟩ := eq8
              have hrr := oWd_rng okA (n := n) (w := w) ⟨by omega, by omega⟩
              refine X.i2l ⟨by omega, by omega⟩ dX5_takeLatestWords_50 (pc' := 51) rfl ?_
              refine X.callV (ci := 1) (a := a) (rm := rm_X1_take) (As := [vl (Int64.ofInt r)]) (st := []) dX5_takeLatestWords_51 ck_X5_182 rfl (by decide) ha rfl rfl ⟨Nat.le_of_ble_eq_true rfl, Nat.le_of_ble_eq_true rfl⟩ (Nat.le_of_ble_eq_true rfl) (Nat.le_of_ble_eq_true rfl) (Nat.le_of_ble_eq_true rfl) (pc' := 54) rfl (k_X1_take (h := (sL h a 0 z)) ha) (fun q9 hq9 eq9 => ?_) (fun _ _ x1 => x1.elim)
              obtain ⟨rfl, rfl⟩ := eq9
              rw [sL_sL, mL_at]
              refine X.iinc (i := 4) (ls' := [some (rf x), some (rf a), some (vi od), some (vi n), some (vi (w + 1))]) dX5_takeLatestWords_54 rfl (by decide) rfl rfl (pc' := 57) rfl ?_
              refine X.goto (tgt := 33) dX5_takeLatestWords_57 (by decide) ?_
              refine ih33 ((31 * z + Int64.ofInt r)) (w + 1) (by omega) ?_
              exact ⟨by omega, by omega, by rw [itF_at hw0, ← hz, hr]; rfl⟩
        refine L33 _ v 0 (Nat.lt_succ_self _) ?_
        exact ⟨by omega, by omega, rfl⟩
  refine L25 _ (mL h a 0) n0 (Nat.lt_succ_self _) ?_
  exact ⟨by omega, by omega, by rw [show (aW (lA L) - 1 - n0).toNat = 0 by omega]; rfl⟩
set_option maxHeartbeats 4000000 in
set_option maxRecDepth 100000 in
theorem k_X5_takeLatestBeats {Ω : xO} {h : xM} {x a lo : Nat} {L : lS} (hE : EL h x lo L) (ha : mT h a = some (1, 1)) : xCt Ω yX5_takeLatestBeats cX5_takeLatestBeats 6 none rm_X5_takeLatestBeats [rf x, rf a] h (fun q h' => q = none ∧ h' = sL h a 0 (dgB (lA L) (mL h a 0))) xNo := by
  refine xCt_of (ini := false) (by decide +kernel) (Nat.le_of_ble_eq_true rfl) (fun q => absurd q (by decide)) ?_
  generalize hPR : (fun q h' => q = none ∧ h' = sL h a 0 (dgB (lA L) (mL h a 0)) : Option xV → xM → Prop) = PR
  have K0 : X Ω RX5 cX5_takeLatestBeats 6 none false rm_X5_takeLatestBeats PR xNo 0 0 0 [some (rf x), some (rf a), none, none, none, none] [] h := ?_
  exact K0
  have okA : aOK (lA L) := hE.2.1.1.2.1
  obtain ⟨okB, okN, okWl, okS, okW, okM, okC, okH⟩ := id hE.2.1.1.2.1
  have hlo := hE.2.2.2.2.2.2
  have hz6 := hE.2.2.1.2.2.1
  have hnB : mI h (x + 1) 0 = aB (lA L) := hE.2.1.1.2.2.1
  have hnW : mI h (x + 1) 1 = aW (lA L) := hE.2.1.1.2.2.2.1
  have hHz : mI h (x + 31) 0 = lZ L := hE.2.2.1.2.1
  have hTn : mI h (x + 33) 0 = lTn L := hE.2.2.2.2.1.1
  have hTr := hE.2.2.2.2.1.2.1
  rw [← sL_id h a]
  refine X.iconst dX5_takeLatestBeats_0 (pc' := 1) rfl ?_
  refine X.aload_n (i := 0) rfl rfl dX5_takeLatestBeats_1 (pc' := 2) rfl ?_
  refine X.getR fk_X5_10 xcl_5 dX5_takeLatestBeats_2 hE.1.1 hE.1.2.1 (pc' := 5) rfl ?_
  refine X.getI (x := aB (lA L)) fk_X5_78 xcl_0 dX5_takeLatestBeats_5 (by decide) hE.2.1.1.1.1 hE.2.1.1.2.2.1 (pc' := 8) rfl (fun r1 => ?_)
  obtain ⟨r1a, r1b⟩ := r1
  refine X.bipush (by decide +kernel) dX5_takeLatestBeats_8 (pc' := 10) rfl ?_
  refine X.isub dX5_takeLatestBeats_10 (pc' := 11) rfl ?_
  refine X.mmax dX5_takeLatestBeats_11 wd_303 wd_193 wd_31 wd_194 ⟨Nat.le_of_ble_eq_true rfl, Nat.le_of_ble_eq_true rfl, Nat.le_of_ble_eq_true rfl, Nat.le_of_ble_eq_true rfl⟩ ⟨by omega, by omega⟩ ⟨by omega, by omega⟩ (pc' := 14) rfl (fun z2 hz2 => ?_)
  refine X.gen (fun od hod => ?_)
  refine X.istore_n (i := 2) (ls' := [some (rf x), some (rf a), some (vi od), none, none, none]) (hi := rfl) (hd := dX5_takeLatestBeats_14) (by decide) rfl rfl (pc' := 15) rfl ?_
  refine X.aload_n (i := 0) rfl rfl dX5_takeLatestBeats_15 (pc' := 16) rfl ?_
  refine X.getR fk_X5_10 xcl_5 dX5_takeLatestBeats_16 hE.1.1 hE.1.2.1 (pc' := 19) rfl ?_
  refine X.getI (x := aB (lA L)) fk_X5_78 xcl_0 dX5_takeLatestBeats_19 (by decide) hE.2.1.1.1.1 hE.2.1.1.2.2.1 (pc' := 22) rfl (fun r3 => ?_)
  obtain ⟨r3a, r3b⟩ := r3
  refine X.iconst dX5_takeLatestBeats_22 (pc' := 23) rfl ?_
  refine X.isub dX5_takeLatestBeats_23 (pc' := 24) rfl ?_
  refine X.gen (fun n0 hn0 => ?_)
  refine X.istore_n (i := 3) (ls' := [some (rf x), some (rf a), some (vi od), some (vi n0), none, none]) (hi := rfl) (hd := dX5_takeLatestBeats_24) (by decide) rfl rfl (pc' := 25) rfl ?_
  have L25 : ∀ (n25 : Nat) (v : Int64) (n : Int), (n + 1).toNat < n25 → (od - 1 ≤ n ∧ n ≤ aB (lA L) - 1 ∧ v = itF (fun i => dbB (lA L) (aB (lA L) - 1 - i)) (mL h a 0) (aB (lA L) - 1 - n).toNat) → X Ω RX5 cX5_takeLatestBeats 6 none false rm_X5_takeLatestBeats PR xNo 0 0 25 [some (rf x), some (rf a), some (vi od), some (vi n), none, none] [] ((sL h a 0 v)) := by
    intro n25
    induction n25 with
    | zero => intro v n hm _; exfalso; omega
    | succ n25 ih25 =>
      intro v n hm25 hinv
      obtain ⟨hn0, hn1, hv⟩ := hinv
      have hodr : 0 ≤ od ∧ (od = 0 ∨ od = aB (lA L) - 8) ∧ aB (lA L) - 8 ≤ od := by omega
      refine X.iload_n (i := 3) rfl rfl dX5_takeLatestBeats_25 (pc' := 26) rfl ?_
      refine X.iload_n (i := 2) rfl rfl dX5_takeLatestBeats_26 (pc' := 27) rfl ?_
      refine X.icmp_lt (tgt := 84) dX5_takeLatestBeats_27 ⟨by omega, by omega⟩ ⟨by omega, by omega⟩ (by decide) (pc' := 30) rfl (fun c27 => ?_) (fun c27 => ?_)
      · refine X.vret dX5_takeLatestBeats_84 rfl (Nat.le_of_ble_eq_true rfl) (Nat.le_of_ble_eq_true rfl) ?_
        subst hPR
        have e : (aB (lA L) - 1 - n).toNat = (lstN (aB (lA L)) 8).toNat := by unfold lstN; split <;> omega
        exact ⟨rfl, by rw [hv, e]; rfl⟩
      · refine X.iconst dX5_takeLatestBeats_30 (pc' := 31) rfl ?_
        refine X.istore (i := 4) (ls' := [some (rf x), some (rf a), some (vi od), some (vi n), some (vi 0), none]) (hd := dX5_takeLatestBeats_31) (by decide) rfl rfl (pc' := 33) rfl ?_
        have L33 : ∀ (n33 : Nat) (z : Int64) (t : Int), (6 - t).toNat < n33 → (0 ≤ t ∧ t ≤ 6 ∧ z = itF (dbS (lA L) n) v t.toNat) → X Ω RX5 cX5_takeLatestBeats 6 none false rm_X5_takeLatestBeats PR xNo 0 0 33 [some (rf x), some (rf a), some (vi od), some (vi n), some (vi t), none] [] ((sL h a 0 z)) := by
          intro n33
          induction n33 with
          | zero => intro z t hm _; exfalso; omega
          | succ n33 ih33 =>
            intro z t hm33 hinv
            obtain ⟨ht0, ht6, hz⟩ := hinv
            refine X.iload (i := 4) rfl dX5_takeLatestBeats_33 (pc' := 35) rfl ?_
            refine X.bipush (by decide +kernel) dX5_takeLatestBeats_35 (pc' := 37) rfl ?_
            refine X.icmp_ge (tgt := 78) dX5_takeLatestBeats_37 ⟨by omega, by omega⟩ ⟨by omega, by omega⟩ (by decide) (pc' := 40) rfl (fun c37 => ?_) (fun c37 => ?_)
            · refine X.iinc (i := 3) (ls' := [some (rf x), some (rf a), some (vi od), some (vi (n + (-1))), some (vi t), none]) dX5_takeLatestBeats_78 rfl (by decide) rfl rfl (pc' := 81) rfl ?_
              refine X.goto (tgt := 25) dX5_takeLatestBeats_81 (by decide) ?_
              refine X.mask (bs := [true, true, true, true, false, false]) (ls' := [some (rf x), some (rf a), some (vi od), some (vi (n + (-1))), none, none]) rfl ?_
              refine ih25 z (n + (-1)) (by omega) ?_
              refine ⟨by omega, by omega, ?_⟩
              rw [show aB (lA L) - 1 - (n + -1) = aB (lA L) - 1 - n + 1 by omega, itF_at (by omega), ← hv]
              show _ = dbB (lA L) (aB (lA L) - 1 - (aB (lA L) - 1 - n)) v
              rw [show aB (lA L) - 1 - (aB (lA L) - 1 - n) = n by omega, hz, show t = 6 by omega]
              rfl
            · refine X.iconst dX5_takeLatestBeats_40 (pc' := 41) rfl ?_
              refine X.istore (i := 5) (ls' := [some (rf x), some (rf a), some (vi od), some (vi n), some (vi t), some (vi 0)]) (hd := dX5_takeLatestBeats_41) (by decide) rfl rfl (pc' := 43) rfl ?_
              have L43 : ∀ (n43 : Nat) (y : Int64) (w : Int), (3 - w).toNat < n43 → (0 ≤ w ∧ w ≤ 3 ∧ y = itF (fun k => tkV (oBt (lA L) t n k)) z w.toNat) → X Ω RX5 cX5_takeLatestBeats 6 none false rm_X5_takeLatestBeats PR xNo 0 0 43 [some (rf x), some (rf a), some (vi od), some (vi n), some (vi t), some (vi w)] [] ((sL h a 0 y)) := by
                intro n43
                induction n43 with
                | zero => intro y w hm _; exfalso; omega
                | succ n43 ih43 =>
                  intro y w hm43 hinv
                  obtain ⟨hw0, hw3, hy⟩ := hinv
                  refine X.iload (i := 5) rfl dX5_takeLatestBeats_43 (pc' := 45) rfl ?_
                  refine X.iconst dX5_takeLatestBeats_45 (pc' := 46) rfl ?_
                  refine X.icmp_gt (tgt := 72) dX5_takeLatestBeats_46 ⟨by omega, by omega⟩ ⟨by omega, by omega⟩ (by decide) (pc' := 49) rfl (fun c46 => ?_) (fun c46 => ?_)
                  · refine X.iinc (i := 4) (ls' := [some (rf x), some (rf a), some (vi od), some (vi n), some (vi (t + 1)), some (vi w)]) dX5_takeLatestBeats_72 rfl (by decide) rfl rfl (pc' := 75) rfl ?_
                    refine X.goto (tgt := 33) dX5_takeLatestBeats_75 (by decide) ?_
                    refine X.mask (bs := [true, true, true, true, true, false]) (ls' := [some (rf x), some (rf a), some (vi od), some (vi n), some (vi (t + 1)), none]) rfl ?_
                    refine ih33 y (t + 1) (by omega) ?_
                    exact ⟨by omega, by omega, by rw [itF_at ht0, ← hz, hy, show w = 3 by omega]; rfl⟩
                  · refine X.aload_n (i := 1) rfl rfl dX5_takeLatestBeats_49 (pc' := 50) rfl ?_
                    refine X.aload_n (i := 0) rfl rfl dX5_takeLatestBeats_50 (pc' := 51) rfl ?_
                    refine X.getR fk_X5_21 xcl_5 dX5_takeLatestBeats_51 hE.1.1 hE.1.2.2.1 (pc' := 54) rfl ?_
                    refine X.iload (i := 4) rfl dX5_takeLatestBeats_54 (pc' := 56) rfl ?_
                    refine X.iload_n (i := 3) rfl rfl dX5_takeLatestBeats_56 (pc' := 57) rfl ?_
                    refine X.iload (i := 5) rfl dX5_takeLatestBeats_57 (pc' := 59) rfl ?_
                    refine X.callV (ci := 3) (a := (x + 30)) (rm := rm_X3_ofBeat) (As := [vi t, vi n, vi w]) (st := [rf a]) dX5_takeLatestBeats_59 ck_X5_150 rfl (by decide) hE.1.2.2.2.2.2.2.1.1 rfl rfl ⟨Nat.le_of_ble_eq_true rfl, Nat.le_of_ble_eq_true rfl⟩ (Nat.le_of_ble_eq_true rfl) (Nat.le_of_ble_eq_true rfl) (Nat.le_of_ble_eq_true rfl) (pc' := 62) rfl (k_X3_ofBeat (h := (sL h a 0 y)) hE.1.2.2.2.2.2.2.1 hE.2.1 ⟨by omega, by omega⟩ ⟨by omega, by omega⟩ ⟨by omega, by omega⟩) (fun q4 hq4 eq4 => ?_) (fun _ _ x1 => x1.elim)
                    obtain ⟨rfl, r, rfl, hr⟩ := eq4
                    have hrr := oBt_rng okA (s := t) (k := n) (w := w) ⟨by omega, by omega⟩ ⟨by omega, by omega⟩
                    refine X.i2l ⟨by omega, by omega⟩ dX5_takeLatestBeats_62 (pc' := 63) rfl ?_
                    refine X.callV (ci := 1) (a := a) (rm := rm_X1_take) (As := [vl (Int64.ofInt r)]) (st := []) dX5_takeLatestBeats_63 ck_X5_182 rfl (by decide) ha rfl rfl ⟨Nat.le_of_ble_eq_true rfl, Nat.le_of_ble_eq_true rfl⟩ (Nat.le_of_ble_eq_true rfl) (Nat.le_of_ble_eq_true rfl) (Nat.le_of_ble_eq_true rfl) (pc' := 66) rfl (k_X1_take (h := (sL h a 0 y)) ha) (fun q5 hq5 eq5 => ?_) (fun _ _ x1 => x1.elim)
                    obtain ⟨rfl, rfl⟩ := eq5
                    rw [sL_sL, mL_at]
                    refine X.iinc (i := 5) (ls' := [some (rf x), some (rf a), some (vi od), some (vi n), some (vi t), some (vi (w + 1))]) dX5_takeLatestBeats_66 rfl (by decide) rfl rfl (pc' := 69) rfl ?_
                    refine X.goto (tgt := 43) dX5_takeLatestBeats_69 (by decide) ?_
                    refine ih43 ((31 * y + Int64.ofInt r)) (w + 1) (by omega) ?_
                    exact ⟨by omega, by omega, by rw [itF_at hw0, ← hy, hr]; rfl⟩
              refine L43 _ z 0 (Nat.lt_succ_self _) ?_
              exact ⟨by omega, by omega, rfl⟩
        refine L33 _ v 0 (Nat.lt_succ_self _) ?_
        exact ⟨by omega, by omega, rfl⟩
  refine L25 _ (mL h a 0) n0 (Nat.lt_succ_self _) ?_
  exact ⟨by omega, by omega, by rw [show (aB (lA L) - 1 - n0).toNat = 0 by omega]; rfl⟩
set_option maxHeartbeats 4000000 in
set_option maxRecDepth 100000 in
theorem k_X5_takeMessages {Ω : xO} {h : xM} {x a lo : Nat} {L : lS} (hE : EL h x lo L) (ha : mT h a = some (1, 1)) : xCt Ω yX5_takeMessages cX5_takeMessages 6 none rm_X5_takeMessages [rf x, rf a] h (fun q h' => q = none ∧ h' = sL h a 0 (dgM (lA L) (mL h a 0))) xNo := by
  refine xCt_of (ini := false) (by decide +kernel) (Nat.le_of_ble_eq_true rfl) (fun q => absurd q (by decide)) ?_
  generalize hPR : (fun q h' => q = none ∧ h' = sL h a 0 (dgM (lA L) (mL h a 0)) : Option xV → xM → Prop) = PR
  have K0 : X Ω RX5 cX5_takeMessages 6 none false rm_X5_takeMessages PR xNo 0 0 0 [some (rf x), some (rf a), none, none, none, none] [] h := ?_
  exact K0
  have okA : aOK (lA L) := hE.2.1.1.2.1
  obtain ⟨okB, okN, okWl, okS, okW, okM, okC, okH⟩ := id hE.2.1.1.2.1
  have hlo := hE.2.2.2.2.2.2
  have hz6 := hE.2.2.1.2.2.1
  have hnB : mI h (x + 1) 0 = aB (lA L) := hE.2.1.1.2.2.1
  have hnW : mI h (x + 1) 1 = aW (lA L) := hE.2.1.1.2.2.2.1
  have hHz : mI h (x + 31) 0 = lZ L := hE.2.2.1.2.1
  have hTn : mI h (x + 33) 0 = lTn L := hE.2.2.2.2.1.1
  have hTr := hE.2.2.2.2.1.2.1
  rw [← sL_id h a]
  refine X.iconst dX5_takeMessages_0 (pc' := 1) rfl ?_
  refine X.istore_n (i := 2) (ls' := [some (rf x), some (rf a), some (vi 0), none, none, none]) (hi := rfl) (hd := dX5_takeMessages_1) (by decide) rfl rfl (pc' := 2) rfl ?_
  have L2 : ∀ (n2 : Nat) (v : Int64) (f : Int), (6 - f).toNat < n2 → (0 ≤ f ∧ f ≤ 6 ∧ v = itF (dmM (lA L)) (mL h a 0) f.toNat) → X Ω RX5 cX5_takeMessages 6 none false rm_X5_takeMessages PR xNo 0 0 2 [some (rf x), some (rf a), some (vi f), none, none, none] [] ((sL h a 0 v)) := by
    intro n2
    induction n2 with
    | zero => intro v f hm _; exfalso; omega
    | succ n2 ih2 =>
      intro v f hm2 hinv
      obtain ⟨hf0, hf6, hv⟩ := hinv
      refine X.iload_n (i := 2) rfl rfl dX5_takeMessages_2 (pc' := 3) rfl ?_
      refine X.bipush (by decide +kernel) dX5_takeMessages_3 (pc' := 5) rfl ?_
      refine X.icmp_ge (tgt := 70) dX5_takeMessages_5 ⟨by omega, by omega⟩ ⟨by omega, by omega⟩ (by decide) (pc' := 8) rfl (fun c5 => ?_) (fun c5 => ?_)
      · refine X.vret dX5_takeMessages_70 rfl (Nat.le_of_ble_eq_true rfl) (Nat.le_of_ble_eq_true rfl) ?_
        subst hPR
        have e : f = 6 := by omega
        subst e
        exact ⟨rfl, by rw [hv]; rfl⟩
      · refine X.iconst dX5_takeMessages_8 (pc' := 9) rfl ?_
        refine X.istore_n (i := 3) (ls' := [some (rf x), some (rf a), some (vi f), some (vi 0), none, none]) (hi := rfl) (hd := dX5_takeMessages_9) (by decide) rfl rfl (pc' := 10) rfl ?_
        have L10 : ∀ (n10 : Nat) (z : Int64) (u : Int), (10 - u).toNat < n10 → (0 ≤ u ∧ u ≤ 10 ∧ z = itF (dmF (lA L) f) v u.toNat) → X Ω RX5 cX5_takeMessages 6 none false rm_X5_takeMessages PR xNo 0 0 10 [some (rf x), some (rf a), some (vi f), some (vi u), none, none] [] ((sL h a 0 z)) := by
          intro n10
          induction n10 with
          | zero => intro z u hm _; exfalso; omega
          | succ n10 ih10 =>
            intro z u hm10 hinv
            obtain ⟨hu0, hu9, hz⟩ := hinv
            refine X.iload_n (i := 3) rfl rfl dX5_takeMessages_10 (pc' := 11) rfl ?_
            refine X.bipush (by decide +kernel) dX5_takeMessages_11 (pc' := 13) rfl ?_
            refine X.icmp_ge (tgt := 64) dX5_takeMessages_13 ⟨by omega, by omega⟩ ⟨by omega, by omega⟩ (by decide) (pc' := 16) rfl (fun c13 => ?_) (fun c13 => ?_)
            · refine X.iinc (i := 2) (ls' := [some (rf x), some (rf a), some (vi (f + 1)), some (vi u), none, none]) dX5_takeMessages_64 rfl (by decide) rfl rfl (pc' := 67) rfl ?_
              refine X.goto (tgt := 2) dX5_takeMessages_67 (by decide) ?_
              refine X.mask (bs := [true, true, true, false, false, false]) (ls' := [some (rf x), some (rf a), some (vi (f + 1)), none, none, none]) rfl ?_
              refine ih2 z (f + 1) (by omega) ?_
              exact ⟨by omega, by omega, by rw [itF_at hf0, ← hv, hz, show u = 10 by omega]; rfl⟩
            · refine X.iconst dX5_takeMessages_16 (pc' := 17) rfl ?_
              refine X.istore (i := 4) (ls' := [some (rf x), some (rf a), some (vi f), some (vi u), some (vi 0), none]) (hd := dX5_takeMessages_17) (by decide) rfl rfl (pc' := 19) rfl ?_
              refine X.iconst dX5_takeMessages_19 (pc' := 20) rfl ?_
              refine X.istore (i := 5) (ls' := [some (rf x), some (rf a), some (vi f), some (vi u), some (vi 0), some (vi 0)]) (hd := dX5_takeMessages_20) (by decide) rfl rfl (pc' := 22) rfl ?_
              have L22 : ∀ (n22 : Nat) (c : Int) (t : Int), (6 - t).toNat < n22 → (0 ≤ t ∧ t ≤ 6 ∧ c = smF (how (lA L) f u) t.toNat) → X Ω RX5 cX5_takeMessages 6 none false rm_X5_takeMessages PR xNo 0 0 22 [some (rf x), some (rf a), some (vi f), some (vi u), some (vi c), some (vi t)] [] ((sL h a 0 z)) := by
                intro n22
                induction n22 with
                | zero => intro c t hm _; exfalso; omega
                | succ n22 ih22 =>
                  intro c t hm22 hinv
                  obtain ⟨ht0, ht6, hc⟩ := hinv
                  have hsm := smF_how (lA L) f u t.toNat
                  refine X.iload (i := 5) rfl dX5_takeMessages_22 (pc' := 24) rfl ?_
                  refine X.bipush (by decide +kernel) dX5_takeMessages_24 (pc' := 26) rfl ?_
                  refine X.icmp_ge (tgt := 51) dX5_takeMessages_26 ⟨by omega, by omega⟩ ⟨by omega, by omega⟩ (by decide) (pc' := 29) rfl (fun c26 => ?_) (fun c26 => ?_)
                  · refine X.aload_n (i := 1) rfl rfl dX5_takeMessages_51 (pc' := 52) rfl ?_
                    refine X.iload (i := 4) rfl dX5_takeMessages_52 (pc' := 54) rfl ?_
                    refine X.i2l ⟨by omega, by omega⟩ dX5_takeMessages_54 (pc' := 55) rfl ?_
                    refine X.callV (ci := 1) (a := a) (rm := rm_X1_take) (As := [vl (Int64.ofInt c)]) (st := []) dX5_takeMessages_55 ck_X5_182 rfl (by decide) ha rfl rfl ⟨Nat.le_of_ble_eq_true rfl, Nat.le_of_ble_eq_true rfl⟩ (Nat.le_of_ble_eq_true rfl) (Nat.le_of_ble_eq_true rfl) (Nat.le_of_ble_eq_true rfl) (pc' := 58) rfl (k_X1_take (h := (sL h a 0 z)) ha) (fun q1 hq1 eq1 => ?_) (fun _ _ x1 => x1.elim)
                    obtain ⟨rfl, rfl⟩ := eq1
                    rw [sL_sL, mL_at]
                    refine X.iinc (i := 3) (ls' := [some (rf x), some (rf a), some (vi f), some (vi (u + 1)), some (vi c), some (vi t)]) dX5_takeMessages_58 rfl (by decide) rfl rfl (pc' := 61) rfl ?_
                    refine X.goto (tgt := 10) dX5_takeMessages_61 (by decide) ?_
                    refine X.mask (bs := [true, true, true, true, false, false]) (ls' := [some (rf x), some (rf a), some (vi f), some (vi (u + 1)), none, none]) rfl ?_
                    refine ih10 ((31 * z + Int64.ofInt c)) (u + 1) (by omega) ?_
                    exact ⟨by omega, by omega, by rw [itF_at hu0, ← hz, hc, show t = 6 by omega]; rfl⟩
                  · refine X.iload (i := 4) rfl dX5_takeMessages_29 (pc' := 31) rfl ?_
                    refine X.aload_n (i := 0) rfl rfl dX5_takeMessages_31 (pc' := 32) rfl ?_
                    refine X.getR fk_X5_21 xcl_5 dX5_takeMessages_32 hE.1.1 hE.1.2.2.1 (pc' := 35) rfl ?_
                    refine X.iload_n (i := 2) rfl rfl dX5_takeMessages_35 (pc' := 36) rfl ?_
                    refine X.iload_n (i := 3) rfl rfl dX5_takeMessages_36 (pc' := 37) rfl ?_
                    refine X.iload (i := 5) rfl dX5_takeMessages_37 (pc' := 39) rfl ?_
                    refine X.callV (ci := 3) (a := (x + 30)) (rm := rm_X3_hearingOf) (As := [vi f, vi u, vi t]) (st := [vi c]) dX5_takeMessages_39 ck_X5_156 rfl (by decide) hE.1.2.2.2.2.2.2.1.1 rfl rfl ⟨Nat.le_of_ble_eq_true rfl, Nat.le_of_ble_eq_true rfl⟩ (Nat.le_of_ble_eq_true rfl) (Nat.le_of_ble_eq_true rfl) (Nat.le_of_ble_eq_true rfl) (pc' := 42) rfl (k_X3_hearingOf (h := (sL h a 0 z)) hE.1.2.2.2.2.2.2.1 hE.2.1 ⟨by omega, by omega⟩ ⟨by omega, by omega⟩ ⟨by omega, by omega⟩) (fun q2 hq2 eq2 => ?_) (fun _ _ x1 => x1.elim)
                    obtain ⟨rfl, y, rfl, hy⟩ := eq2
                    have hyr := how_rng (lA L) f u t
                    refine X.iadd dX5_takeMessages_42 (pc' := 43) rfl ?_
                    refine X.gen (fun c2 hc2 => ?_)
                    refine X.istore (i := 4) (ls' := [some (rf x), some (rf a), some (vi f), some (vi u), some (vi c2), some (vi t)]) (hd := dX5_takeMessages_43) (by decide) rfl rfl (pc' := 45) rfl ?_
                    refine X.iinc (i := 5) (ls' := [some (rf x), some (rf a), some (vi f), some (vi u), some (vi c2), some (vi (t + 1))]) dX5_takeMessages_45 rfl (by decide) rfl rfl (pc' := 48) rfl ?_
                    refine X.goto (tgt := 22) dX5_takeMessages_48 (by decide) ?_
                    refine ih22 c2 (t + 1) (by omega) ?_
                    exact ⟨by omega, by omega, by rw [smF_at ht0, ← hc, ← hy]; omega⟩
              refine L22 _ 0 0 (Nat.lt_succ_self _) ?_
              exact ⟨by omega, by omega, rfl⟩
        refine L10 _ v 0 (Nat.lt_succ_self _) ?_
        exact ⟨by omega, by omega, rfl⟩
  refine L2 _ (mL h a 0) 0 (Nat.lt_succ_self _) ?_
  exact ⟨by omega, by omega, rfl⟩
