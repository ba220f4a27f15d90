/-! ===== the model's text ===== -/
theorem aW_rest (A : aS) : ∀ n : Nat, aW (aRest A n) = aW A
  | 0 => rfl
  | n + 1 => (show aW (aEnd (aRest A n)) = aW A from aW_rest A n)
def TS (h : xM) (m : Nat) (n : Int) (G : Int → Int) (w a : Int) : Prop := (mI h m 5 = n ∧ mI h m 6 = a ∧ mI h m 7 = w) ∧ (w = 0 ∨ w = 1) ∧ (0 ≤ a ∧ a ≤ n ∧ n ≤ 60) ∧ ∀ j, 0 ≤ j → j < n → mI h (m + 2) j = G j ∧ (33 ≤ G j ∧ G j ≤ 126)
/-- only where it reads is another place -/
def FP (h g : xM) (m : Nat) : Prop := FM h g m ∧ (∀ q, q ≠ m → mI g q = mI h q) ∧ ∀ j, j ≠ 6 → j ≠ 7 → mI g m j = mI h m j
/-- only what was read is another -/
def FT (h g : xM) (m : Nat) : Prop := FM h g m ∧ mI g (m + 1) = mI h (m + 1) ∧ mI g (m + 2) = mI h (m + 2) ∧ ∀ j, j ≤ 5 → mI g m j = mI h m j
theorem FP.rf {h : xM} {m : Nat} : FP h h m := ⟨FM.rf, fun _ _ => rfl, fun _ _ _ => rfl⟩
theorem FP.tr {h g k : xM} {m : Nat} (H : FP h g m) (H' : FP g k m) : FP h k m := ⟨H.1.tr H'.1, fun q z => (H'.2.1 q z).trans (H.2.1 q z), fun j z1 z2 => (H'.2.2 j z1 z2).trans (H.2.2 j z1 z2)⟩
theorem FP.w {h g : xM} {m : Nat} {k x : Int} (H : FP h g m) (hk : k = 6 ∨ k = 7) : FP h (sI g m k x) m := ⟨H.1.w ⟨by omega, by omega⟩, fun q z => by rw [← H.2.1 q z]; funext j; rw [mI_sI, if_neg (fun y => z y.1)], fun j z1 z2 => by rw [← H.2.2 j z1 z2, mI_sI, if_neg (by omega)]⟩
theorem FP.ft {h g : xM} {m : Nat} (H : FP h g m) : FT h g m := ⟨H.1, H.2.1 _ (by omega), H.2.1 _ (by omega), fun j z => H.2.2 j (by omega) (by omega)⟩
theorem FT.rf {h : xM} {m : Nat} : FT h h m := ⟨FM.rf, rfl, rfl, fun _ _ => rfl⟩
theorem FT.tr {h g k : xM} {m : Nat} (H : FT h g m) (H' : FT g k m) : FT h k m := ⟨H.1.tr H'.1, H'.2.1.trans H.2.1, H'.2.2.1.trans H.2.2.1, fun j z => (H'.2.2.2 j z).trans (H.2.2.2 j z)⟩
theorem FT.w {h g : xM} {m : Nat} {k x : Int} (H : FT h g m) (hk : 6 ≤ k) : FT h (sI g m k x) m := ⟨H.1.w ⟨by omega, by omega⟩, by rw [← H.2.1]; funext j; rw [mI_sI, if_neg (by omega)], by rw [← H.2.2.1]; funext j; rw [mI_sI, if_neg (by omega)], fun j z => by rw [← H.2.2.2 j z, mI_sI, if_neg (by omega)]⟩
theorem FT.w3 {h g : xM} {m : Nat} {k x : Int} (H : FT h g m) : FT h (sI g (m + 3) k x) m := ⟨H.1.w ⟨by omega, by omega⟩, by rw [← H.2.1]; funext j; rw [mI_sI, if_neg (by omega)], by rw [← H.2.2.1]; funext j; rw [mI_sI, if_neg (by omega)], fun j z => by rw [← H.2.2.2 j z, mI_sI, if_neg (by omega)]⟩
theorem TS.ft {h g : xM} {m : Nat} {n w a w' a' : Int} {G : Int → Int} (H : TS h m n G w a) (hF : FT h g m) (h6 : mI g m 6 = a') (h7 : mI g m 7 = w') (hw : w' = 0 ∨ w' = 1) (ha : 0 ≤ a' ∧ a' ≤ n) : TS g m n G w' a' := ⟨⟨by rw [hF.2.2.2 5 (by omega)]; exact H.1.1, h6, h7⟩, hw, ⟨ha.1, ha.2, H.2.2.1.2.2⟩, by rw [hF.2.2.1]; exact H.2.2.2⟩
theorem MoS.ft {h g : xM} {m : Nat} (H : MoS h m) (hF : FM h g m) : MoS g m := H.eq hF.2.1 hF.2.2.1
theorem ML.ft {h g : xM} {m : Nat} {L : lS} (H : ML h m L) (hF : FT h g m) : ML g m L := H.th hF.1 hF.2.1 hF.2.2.1 (fun j z => hF.2.2.2 j (by omega))
/-- it is wrong at e -/
def Bad (G : Int → Int) (n e : Int) : Prop := rn G e ≠ -1 ∧ ((e = n ∧ ¬ acc (rn G n)) ∨ (e < n ∧ rn G (e + 1) = -1))
theorem Bad.no {G : Int → Int} {n e : Int} (h : Bad G n e) (h0 : 0 ≤ e) : ¬ acc (rn G n) := fun z => by
  rcases h.2 with q | q
  · exact q.2 z
  · exact rn_ok z (by omega) (by omega) q.2
theorem sc_w1 {G : Int → Int} {s u b a o : Int} {A A1 : aS} (hb : b ≤ a) (h : scF G s u b A (a - b).toNat = (A1, 0, o)) (hd : 48 ≤ G a ∧ G a ≤ 57) : scF G s u b A (a + 1 - b).toNat = (A1, G a - 48, o) := by
  rw [scF_at hb, h, scS_in (by omega)]
  simp only [Prod.mk.injEq, true_and, and_true]
  omega
theorem sc_w2 {G : Int → Int} {s u b a o : Int} {A A1 : aS} (hb : b ≤ a) (h : scF G s u b A (a - b).toNat = (A1, 0, o)) (hd : 48 ≤ G a ∧ G a ≤ 57) (hd2 : 48 ≤ G (a + 1) ∧ G (a + 1) ≤ 57) : scF G s u b A (a + 2 - b).toNat = (A1, 10 * (G a - 48) + G (a + 1) - 48, o) := by
  have h1 := sc_w1 hb h hd
  rw [show a + 2 - b = a + 1 + 1 - b by omega, scF_at (by omega), h1, scS_in (by omega)]
  simp only [Prod.mk.injEq, true_and, and_true]
  omega
/-- a word more -/
theorem sc_word {G : Int → Int} {s b a a1 k v : Int} {W W' : Int → Int} (hb : b ≤ a) (hk : 0 ≤ k) (hE : ∀ A u, scF G s u b A (a - b).toNat = spF s u W A k.toNat) (hd : (a1 = a + 1 ∧ v = G a - 48 ∧ (48 ≤ G a ∧ G a ≤ 57)) ∨ (a1 = a + 2 ∧ v = 10 * (G a - 48) + G (a + 1) - 48 ∧ (48 ≤ G a ∧ G a ≤ 57) ∧ (48 ≤ G (a + 1) ∧ G (a + 1) ≤ 57))) (hW : ∀ j, 0 ≤ j → j < k → W j = W' j) (hv : W' k = v) : ∀ A u, spk s u (scF G s u b A (a1 - b).toNat) = spF s u W' A (k + 1).toNat := by
  intro A u
  have h1 : spF s u W A k.toNat = spF s u W' A k.toNat := spF_congr _ (fun j z1 z2 => hW j z1 (by omega))
  have h2 := spF_0 s u W' A k.toNat
  rw [spF_at hk, hv]
  have h3 : scF G s u b A (a - b).toNat = ((spF s u W' A k.toNat).1, 0, (spF s u W' A k.toNat).2.2) := by
    rw [hE A u, h1]
    exact Prod.ext rfl (Prod.ext h2 rfl)
  rcases hd with ⟨z1, z2, z3⟩ | ⟨z1, z2, z3, z4⟩
  · rw [z1, sc_w1 hb h3 z3, z2]
  · rw [z1, sc_w2 hb h3 z3 z4, z2]
theorem spF_dead {s u : Int} {W : Int → Int} {A A1 : aS} {k : Nat} (h : spF s u W A k = (A1, 0, 0)) : ∀ c : Nat, spF s u W A (k + c) = (A1, 0, 0)
  | 0 => h
  | c + 1 => by
    have ih := spF_dead h c
    show spk s u ((spF s u W A (k + c)).1, W ((k + c : Nat) : Int), (spF s u W A (k + c)).2.2) = _
    rw [ih]
    unfold spk
    rw [if_neg (fun z => absurd (show (0 : Int) = 1 from z.1) (by decide))]
set_option maxHeartbeats 4000000 in
set_option maxRecDepth 100000 in
theorem k_X4_partHappens {Ω : xO} {h : xM} {t b : Nat} {n p e : Int} {G : Int → Int} {A : aS} (hS : TxS h t) (hT : TR h t n G) (hR : RC h b A) (hd : t + 1 < b ∨ b + 29 ≤ t) (hC : acc (rn G n)) (hp : 0 ≤ p ∧ p < n) (hst : rn G p = 0) (he : e = pe G n p) (hpA : aPast A) : xCt Ω yX4_partHappens cX4_partHappens 4 (some .boolean) rm_X4_partHappens [rf t, rf b, vi p, vi e] h (fun q h' => Fr h h' b ∧ ∃ r A2, q = some (vi r) ∧ RC h' b A2 ∧ aPast A2 ∧ ((r = 1 ∧ ∀ f : Nat, tkF G n (f + 1) p A = tkF G n f (e + 1) A2) ∨ (r = 0 ∧ ∀ f : Nat, tkF G n (f + 1) p A = A2))) xNo := by
  refine xCt_of (ini := false) (by decide +kernel) (Nat.le_of_ble_eq_true rfl) (fun q => absurd q (by decide)) ?_
  generalize hPR : (fun q h' => Fr h h' b ∧ ∃ r A2, q = some (vi r) ∧ RC h' b A2 ∧ aPast A2 ∧ ((r = 1 ∧ ∀ f : Nat, tkF G n (f + 1) p A = tkF G n f (e + 1) A2) ∨ (r = 0 ∧ ∀ f : Nat, tkF G n (f + 1) p A = A2)) : Option xV → xM → Prop) = PR
  have K0 : X Ω RX4 cX4_partHappens 4 (some .boolean) false rm_X4_partHappens PR xNo 0 0 0 [some (rf t), some (rf b), some (vi p), some (vi e)] [] h := ?_
  exact K0
  obtain ⟨hT1, hT2, hT3⟩ := id hT
  have okA : aOK A := hR.1.2.1
  have okB := okA.1
  obtain ⟨pr1, pr2, pr3, pr4⟩ := pe_rng (G := G) (n := n) (p := p) hp.1 (by omega)
  rw [← he] at pr1 pr2
  refine X.aload_n (i := 0) rfl rfl dX4_partHappens_0 (pc' := 1) rfl ?_
  refine X.getR fk_X4_9 xcl_4 dX4_partHappens_1 hS.1 hS.2.1 (pc' := 4) rfl ?_
  refine X.iload_n (i := 2) rfl rfl dX4_partHappens_4 (pc' := 5) rfl ?_
  refine X.cald (x := G p) dX4_partHappens_5 hS.2.2 (by omega) (by omega) ⟨by omega, by omega⟩ (mI_at (hT3 p (by omega) (by omega)).1 (by omega)) (pc' := 6) rfl (fun r1 => ?_)
  obtain ⟨r1a, r1b⟩ := r1
  have r1c := (hT3 p (by omega) (by omega)).2
  refine X.bipush (by decide +kernel) dX4_partHappens_6 (pc' := 8) rfl ?_
  refine X.icmp_ne (tgt := 21) dX4_partHappens_8 ⟨by omega, by omega⟩ ⟨by omega, by omega⟩ (by decide) (pc' := 11) rfl (fun c8 => ?_) (fun c8 => ?_)
  · refine X.aload_n (i := 0) rfl rfl dX4_partHappens_21 (pc' := 22) rfl ?_
    refine X.aload_n (i := 1) rfl rfl dX4_partHappens_22 (pc' := 23) rfl ?_
    refine X.iload_n (i := 2) rfl rfl dX4_partHappens_23 (pc' := 24) rfl ?_
    refine X.iload_n (i := 3) rfl rfl dX4_partHappens_24 (pc' := 25) rfl ?_
    refine X.callV (ci := 4) (a := t) (rm := rm_X4_speakIn) (As := [rf b, vi p, vi e]) (st := []) dX4_partHappens_25 ck_X4_48 rfl (by decide) hS.1 rfl rfl ⟨Nat.le_of_ble_eq_true rfl, Nat.le_of_ble_eq_true rfl⟩ (Nat.le_of_ble_eq_true rfl) (Nat.le_of_ble_eq_true rfl) (Nat.le_of_ble_eq_true rfl) (pc' := 28) rfl (k_X4_speakIn hS hT hR hd hC hp hst he (by omega) hpA) (fun q2 hq2 eq2 => ?_) (fun _ _ x1 => x1.elim)
    obtain ⟨hFr, r1, rfl, hr1, hRs, hps⟩ := eq2
    have hr01 : r1 = 0 ∨ r1 = 1 := by
      have := spk_o (G p - 48) (mkOf G p e) (scF G (G p - 48) (mkOf G p e) (p + 2) A (weOf G p e - (p + 2)).toNat)
      rw [hr1]; exact this
    refine X.iret dX4_partHappens_28 (Or.inr ⟨rfl, by omega⟩) (Nat.le_of_ble_eq_true rfl) (Nat.le_of_ble_eq_true rfl) ?_
    subst hPR
    refine ⟨hFr, r1, _, rfl, hRs, hps, ?_⟩
    rcases hr01 with z | z
    · refine Or.inr ⟨z, fun f => ?_⟩
      rw [tkF_say (A := A) (f := f) hp.2 (show G p ≠ 46 by omega) he rfl, if_neg (by omega)]
    · refine Or.inl ⟨z, fun f => ?_⟩
      rw [tkF_say (A := A) (f := f) hp.2 (show G p ≠ 46 by omega) he rfl, if_pos (by omega)]
  · refine X.aload_n (i := 0) rfl rfl dX4_partHappens_11 (pc' := 12) rfl ?_
    refine X.aload_n (i := 1) rfl rfl dX4_partHappens_12 (pc' := 13) rfl ?_
    refine X.iload_n (i := 2) rfl rfl dX4_partHappens_13 (pc' := 14) rfl ?_
    refine X.iload_n (i := 3) rfl rfl dX4_partHappens_14 (pc' := 15) rfl ?_
    refine X.callV (ci := 4) (a := t) (rm := rm_X4_restIn) (As := [rf b, vi p, vi e]) (st := []) dX4_partHappens_15 ck_X4_45 rfl (by decide) hS.1 rfl rfl ⟨Nat.le_of_ble_eq_true rfl, Nat.le_of_ble_eq_true rfl⟩ (Nat.le_of_ble_eq_true rfl) (Nat.le_of_ble_eq_true rfl) (Nat.le_of_ble_eq_true rfl) (pc' := 18) rfl (k_X4_restIn hS hT hR hd hC hp hst he (by omega)) (fun q3 hq3 eq3 => ?_) (fun _ _ x1 => x1.elim)
    obtain ⟨hFr, r1, rfl, hrr⟩ := eq3
    have hr01 : r1 = 0 ∨ r1 = 1 := by rcases hrr with z | z <;> omega
    refine X.goto (tgt := 28) dX4_partHappens_18 (by decide) ?_
    refine X.iret dX4_partHappens_28 (Or.inr ⟨rfl, by omega⟩) (Nat.le_of_ble_eq_true rfl) (Nat.le_of_ble_eq_true rfl) ?_
    subst hPR
    rcases hrr with ⟨z1, z2, z3⟩ | ⟨z1, z2, z3⟩
    · refine ⟨hFr, r1, _, rfl, z3, (aPast_rest okA hpA _ (by omega)).1, Or.inl ⟨z2, fun f => ?_⟩⟩
      rw [tkF_rest (A := A) (f := f) hp.2 (show G p = 46 by omega) he rfl, if_pos z1]
    · refine ⟨hFr, r1, _, rfl, z3, hpA, Or.inr ⟨z2, fun f => ?_⟩⟩
      rw [tkF_rest (A := A) (f := f) hp.2 (show G p = 46 by omega) he rfl, if_neg (by omega)]
set_option maxHeartbeats 4000000 in
set_option maxRecDepth 100000 in
theorem k_X4_happenIn {Ω : xO} {h : xM} {t b : Nat} {n : Int} {G : Int → Int} {A : aS} (hS : TxS h t) (hT : TR h t n G) (hR : RC h b A) (hd : t + 1 < b ∨ b + 29 ≤ t) (hC : acc (rn G n)) (hpA : aPast A) : xCt Ω yX4_happenIn cX4_happenIn 4 none rm_X4_happenIn [rf t, rf b] h (fun q h' => q = none ∧ Fr h h' b ∧ RC h' b (tkF G n 61 0 A) ∧ aPast (tkF G n 61 0 A)) xNo := by
  refine xCt_of (ini := false) (by decide +kernel) (Nat.le_of_ble_eq_true rfl) (fun q => absurd q (by decide)) ?_
  generalize hPR : (fun q h' => q = none ∧ Fr h h' b ∧ RC h' b (tkF G n 61 0 A) ∧ aPast (tkF G n 61 0 A) : Option xV → xM → Prop) = PR
  have K0 : X Ω RX4 cX4_happenIn 4 none false rm_X4_happenIn PR xNo 0 0 0 [some (rf t), some (rf b), none, none] [] h := ?_
  exact K0
  have hTn := hT.2.1
  have hn0 := (st_0 hC (Int.le_refl 0) hTn.1 rfl).1
  refine X.iconst dX4_happenIn_0 (pc' := 1) rfl ?_
  refine X.istore_n (i := 2) (ls' := [some (rf t), some (rf b), some (vi 0), none]) (hi := rfl) (hd := dX4_happenIn_1) (by decide) rfl rfl (pc' := 2) rfl ?_
  refine X.iconst dX4_happenIn_2 (pc' := 3) rfl ?_
  refine X.istore_n (i := 3) (ls' := [some (rf t), some (rf b), some (vi 0), some (vi 0)]) (hi := rfl) (hd := dX4_happenIn_3) (by decide) rfl rfl (pc' := 4) rfl ?_
  have L4 : ∀ (n4 : Nat) (g : xM) (p : Int) (k : Int) (A1 : aS) (f : Nat), (n + 1 - k).toNat < n4 → (0 ≤ p ∧ p ≤ k ∧ k ≤ n + 1 ∧ (k ≤ n → p < n ∧ rn G p = 0) ∧ (k = n + 1 → p = n + 1) ∧ (∀ j, p ≤ j → j < k → G j ≠ 59) ∧ n + 1 - p ≤ f ∧ tkF G n f p A1 = tkF G n 61 0 A ∧ RC g b A1 ∧ aPast A1 ∧ Fr h g b) → X Ω RX4 cX4_happenIn 4 none false rm_X4_happenIn PR xNo 0 0 4 [some (rf t), some (rf b), some (vi p), some (vi k)] [] g := by
    intro n4
    induction n4 with
    | zero => intro g p k A1 f hm _; exfalso; omega
    | succ n4 ih4 =>
      intro g p k A1 f hm4 hinv
      obtain ⟨hp, hpk, hkn, hp0, hp1, hno, hf, htk, hRg, hpg, hFg⟩ := hinv
      have hSg : TxS g t := hS.sam (hFg.sam (by omega)) (hFg.sam (by omega))
      have hTg : TR g t n G := hT.sam (hFg.sam (by omega)) (hFg.sam (by omega))
      have hTl := hTg.1
      refine X.iload_n (i := 3) rfl rfl dX4_happenIn_4 (pc' := 5) rfl ?_
      refine X.aload_n (i := 0) rfl rfl dX4_happenIn_5 (pc' := 6) rfl ?_
      refine X.getI (x := mI g t 0) fk_X4_15 xcl_4 dX4_happenIn_6 (by decide) hSg.1 rfl (pc' := 9) rfl (fun r1 => ?_)
      obtain ⟨r1a, r1b⟩ := r1
      refine X.icmp_gt (tgt := 52) dX4_happenIn_9 ⟨by omega, by omega⟩ ⟨by omega, by omega⟩ (by decide) (pc' := 12) rfl (fun c9 => ?_) (fun c9 => ?_)
      · refine X.vret dX4_happenIn_52 rfl (Nat.le_of_ble_eq_true rfl) (Nat.le_of_ble_eq_true rfl) ?_
        subst hPR
        have hk := tkF_end (G := G) (A := A1) (show n ≤ p by omega) f
        rw [htk] at hk
        rw [hk]
        exact ⟨rfl, hFg, hRg, hpg⟩
      · obtain ⟨hpn2, hst⟩ := hp0 (by omega)
        refine X.iload_n (i := 3) rfl rfl dX4_happenIn_12 (pc' := 13) rfl ?_
        refine X.aload_n (i := 0) rfl rfl dX4_happenIn_13 (pc' := 14) rfl ?_
        refine X.getI (x := mI g t 0) fk_X4_15 xcl_4 dX4_happenIn_14 (by decide) hSg.1 rfl (pc' := 17) rfl (fun r2 => ?_)
        obtain ⟨r2a, r2b⟩ := r2
        refine X.icmp_eq (tgt := 31) dX4_happenIn_17 ⟨by omega, by omega⟩ ⟨by omega, by omega⟩ (by decide) (pc' := 20) rfl (fun c17 => ?_) (fun c17 => ?_)
        · have he : k = pe G n p := pe_of hp (by omega) (by omega) hno (by omega)
          obtain ⟨f2, rfl⟩ : ∃ f2, f = f2 + 1 := ⟨f - 1, by omega⟩
          refine X.aload_n (i := 0) rfl rfl dX4_happenIn_31 (pc' := 32) rfl ?_
          refine X.aload_n (i := 1) rfl rfl dX4_happenIn_32 (pc' := 33) rfl ?_
          refine X.iload_n (i := 2) rfl rfl dX4_happenIn_33 (pc' := 34) rfl ?_
          refine X.iload_n (i := 3) rfl rfl dX4_happenIn_34 (pc' := 35) rfl ?_
          refine X.callV (ci := 4) (a := t) (rm := rm_X4_partHappens) (As := [rf b, vi p, vi k]) (st := []) dX4_happenIn_35 ck_X4_41 rfl (by decide) hSg.1 rfl rfl ⟨Nat.le_of_ble_eq_true rfl, Nat.le_of_ble_eq_true rfl⟩ (Nat.le_of_ble_eq_true rfl) (Nat.le_of_ble_eq_true rfl) (Nat.le_of_ble_eq_true rfl) (pc' := 38) rfl (k_X4_partHappens hSg hTg hRg hd hC ⟨hp, hpn2⟩ hst he hpg) (fun q3 hq3 eq3 => ?_) (fun _ _ x1 => x1.elim)
          obtain ⟨hFr, r1, A2, rfl, hR2, hp2, hrr⟩ := eq3
          have hr01 : r1 = 0 ∨ r1 = 1 := by rcases hrr with z | z <;> omega
          refine X.if_ne (tgt := 42) dX4_happenIn_38 ⟨by omega, by omega⟩ (by decide) (pc' := 41) rfl (fun c38 => ?_) (fun c38 => ?_)
          · refine X.iload_n (i := 3) rfl rfl dX4_happenIn_42 (pc' := 43) rfl ?_
            refine X.iconst dX4_happenIn_43 (pc' := 44) rfl ?_
            refine X.iadd dX4_happenIn_44 (pc' := 45) rfl ?_
            refine X.gen (fun x4 hx4 => ?_)
            refine X.istore_n (i := 2) (ls' := [some (rf t), some (rf b), some (vi x4), some (vi k)]) (hi := rfl) (hd := dX4_happenIn_45) (by decide) rfl rfl (pc' := 46) rfl ?_
            refine X.iinc (i := 3) (ls' := [some (rf t), some (rf b), some (vi x4), some (vi (k + 1))]) dX4_happenIn_46 rfl (by decide) rfl rfl (pc' := 49) rfl ?_
            refine X.goto (tgt := 4) dX4_happenIn_49 (by decide) ?_
            refine ih4 hq3 x4 (k + 1) A2 f2 (by omega) ?_
            have e5 : x4 = k + 1 := by omega
            rw [e5]
            have hpa := pe_acc hC hp (show p ≤ n by omega)
            refine ⟨by omega, by omega, by omega, fun z => ?_, fun z => by omega, fun j z1 z2 => by omega, by omega, ?_, hR2, hp2, hFg.tr hFr⟩
            · have z5 : rn G (k + 1) = 0 := by rw [he]; exact hpa.2 (by omega)
              exact ⟨(st_0 hC (by omega) (by omega) z5).1, z5⟩
            · rcases hrr with z | z
              · rw [← z.2 f2]; exact htk
              · omega
          · refine X.vret dX4_happenIn_41 rfl (Nat.le_of_ble_eq_true rfl) (Nat.le_of_ble_eq_true rfl) ?_
            subst hPR
            rcases hrr with z | z
            · omega
            · have hk := z.2 f2
              rw [htk] at hk
              rw [hk]
              exact ⟨rfl, hFg.tr hFr, hR2, hp2⟩
        · refine X.aload_n (i := 0) rfl rfl dX4_happenIn_20 (pc' := 21) rfl ?_
          refine X.getR fk_X4_9 xcl_4 dX4_happenIn_21 hSg.1 hSg.2.1 (pc' := 24) rfl ?_
          refine X.iload_n (i := 3) rfl rfl dX4_happenIn_24 (pc' := 25) rfl ?_
          refine X.cald (x := G k) dX4_happenIn_25 hSg.2.2 (by omega) (by omega) ⟨by omega, by omega⟩ (mI_at (hTg.2.2 k (by omega) (by omega)).1 (by omega)) (pc' := 26) rfl (fun r5 => ?_)
          obtain ⟨r5a, r5b⟩ := r5
          have r5c := (hTg.2.2 k (by omega) (by omega)).2
          refine X.bipush (by decide +kernel) dX4_happenIn_26 (pc' := 28) rfl ?_
          refine X.icmp_ne (tgt := 46) dX4_happenIn_28 ⟨by omega, by omega⟩ ⟨by omega, by omega⟩ (by decide) (pc' := 31) rfl (fun c28 => ?_) (fun c28 => ?_)
          · refine X.iinc (i := 3) (ls' := [some (rf t), some (rf b), some (vi p), some (vi (k + 1))]) dX4_happenIn_46 rfl (by decide) rfl rfl (pc' := 49) rfl ?_
            refine X.goto (tgt := 4) dX4_happenIn_49 (by decide) ?_
            refine ih4 g p (k + 1) A1 f (by omega) ?_
            refine ⟨by omega, by omega, by omega, fun _ => ⟨hpn2, hst⟩, fun z => by omega, fun j z1 z2 => ?_, hf, htk, hRg, hpg, hFg⟩
            by_cases e9 : j = k
            · subst e9; omega
            · exact hno j z1 (by omega)
          · have he : k = pe G n p := pe_of hp (by omega) (by omega) hno (by omega)
            obtain ⟨f2, rfl⟩ : ∃ f2, f = f2 + 1 := ⟨f - 1, by omega⟩
            refine X.aload_n (i := 0) rfl rfl dX4_happenIn_31 (pc' := 32) rfl ?_
            refine X.aload_n (i := 1) rfl rfl dX4_happenIn_32 (pc' := 33) rfl ?_
            refine X.iload_n (i := 2) rfl rfl dX4_happenIn_33 (pc' := 34) rfl ?_
            refine X.iload_n (i := 3) rfl rfl dX4_happenIn_34 (pc' := 35) rfl ?_
            refine X.callV (ci := 4) (a := t) (rm := rm_X4_partHappens) (As := [rf b, vi p, vi k]) (st := []) dX4_happenIn_35 ck_X4_41 rfl (by decide) hSg.1 rfl rfl ⟨Nat.le_of_ble_eq_true rfl, Nat.le_of_ble_eq_true rfl⟩ (Nat.le_of_ble_eq_true rfl) (Nat.le_of_ble_eq_true rfl) (Nat.le_of_ble_eq_true rfl) (pc' := 38) rfl (k_X4_partHappens hSg hTg hRg hd hC ⟨hp, hpn2⟩ hst he hpg) (fun q6 hq6 eq6 => ?_) (fun _ _ x1 => x1.elim)
            obtain ⟨hFr, r1, A2, rfl, hR2, hp2, hrr⟩ := eq6
            have hr01 : r1 = 0 ∨ r1 = 1 := by rcases hrr with z | z <;> omega
            refine X.if_ne (tgt := 42) dX4_happenIn_38 ⟨by omega, by omega⟩ (by decide) (pc' := 41) rfl (fun c38 => ?_) (fun c38 => ?_)
            · refine X.iload_n (i := 3) rfl rfl dX4_happenIn_42 (pc' := 43) rfl ?_
              refine X.iconst dX4_happenIn_43 (pc' := 44) rfl ?_
              refine X.iadd dX4_happenIn_44 (pc' := 45) rfl ?_
              refine X.gen (fun x7 hx7 => ?_)
              refine X.istore_n (i := 2) (ls' := [some (rf t), some (rf b), some (vi x7), some (vi k)]) (hi := rfl) (hd := dX4_happenIn_45) (by decide) rfl rfl (pc' := 46) rfl ?_
              refine X.iinc (i := 3) (ls' := [some (rf t), some (rf b), some (vi x7), some (vi (k + 1))]) dX4_happenIn_46 rfl (by decide) rfl rfl (pc' := 49) rfl ?_
              refine X.goto (tgt := 4) dX4_happenIn_49 (by decide) ?_
              refine ih4 hq6 x7 (k + 1) A2 f2 (by omega) ?_
              have e5 : x7 = k + 1 := by omega
              rw [e5]
              have hpa := pe_acc hC hp (show p ≤ n by omega)
              refine ⟨by omega, by omega, by omega, fun z => ?_, fun z => by omega, fun j z1 z2 => by omega, by omega, ?_, hR2, hp2, hFg.tr hFr⟩
              · have z5 : rn G (k + 1) = 0 := by rw [he]; exact hpa.2 (by omega)
                exact ⟨(st_0 hC (by omega) (by omega) z5).1, z5⟩
              · rcases hrr with z | z
                · rw [← z.2 f2]; exact htk
                · omega
            · refine X.vret dX4_happenIn_41 rfl (Nat.le_of_ble_eq_true rfl) (Nat.le_of_ble_eq_true rfl) ?_
              subst hPR
              rcases hrr with z | z
              · omega
              · have hk := z.2 f2
                rw [htk] at hk
                rw [hk]
                exact ⟨rfl, hFg.tr hFr, hR2, hp2⟩
  refine L4 _ h 0 0 A 61 (Nat.lt_succ_self _) ?_
  exact ⟨by omega, by omega, by omega, fun _ => ⟨hn0, rfl⟩, fun z => by omega, fun j z1 z2 => by omega, by omega, rfl, hR, hpA, Fr.rf⟩
set_option maxHeartbeats 4000000 in
set_option maxRecDepth 100000 in
theorem k_X5_firstError {Ω : xO} {h : xM} {x lo : Nat} {L : lS} (hE : EL h x lo L) : xCt Ω yX5_firstError cX5_firstError 1 (some .int) rm_X5_firstError [rf x] h (fun q h' => h = h' ∧ ∃ r, q = some (vi r) ∧ EPl (lTg L) (lTn L) r) xNo := by
  refine xCt_of (ini := false) (by decide +kernel) (Nat.le_of_ble_eq_true rfl) (fun q => absurd q (by decide)) ?_
  generalize hPR : (fun q h' => h = h' ∧ ∃ r, q = some (vi r) ∧ EPl (lTg L) (lTn L) r : Option xV → xM → Prop) = PR
  have K0 : X Ω RX5 cX5_firstError 1 (some .int) false rm_X5_firstError PR xNo 0 0 0 [some (rf x)] [] h := ?_
  exact K0
  have okA : aOK (lA L) := hE.2.1.1.2.1
  obtain ⟨okB, okN, okWl, okS, okW, okM, okC, okH⟩ := id hE.2.1.1.2.1
  have hlo := hE.2.2.2.2.2.2
  have hz6 := hE.2.2.1.2.2.1
  have hnB : mI h (x + 1) 0 = aB (lA L) := hE.2.1.1.2.2.1
  have hnW : mI h (x + 1) 1 = aW (lA L) := hE.2.1.1.2.2.2.1
  have hHz : mI h (x + 31) 0 = lZ L := hE.2.2.1.2.1
  have hTn : mI h (x + 33) 0 = lTn L := hE.2.2.2.2.1.1
  have hTr := hE.2.2.2.2.1.2.1
  refine X.aload_n (i := 0) rfl rfl dX5_firstError_0 (pc' := 1) rfl ?_
  refine X.getR fk_X5_35 xcl_5 dX5_firstError_1 hE.1.1 hE.1.2.2.2.2.1 (pc' := 4) rfl ?_
  refine X.callV (ci := 4) (a := (x + 33)) (rm := rm_X4_errorPlace) (As := []) (st := []) dX5_firstError_4 ck_X5_109 rfl (by decide) hE.1.2.2.2.2.2.2.2.2.1 rfl rfl ⟨Nat.le_of_ble_eq_true rfl, Nat.le_of_ble_eq_true rfl⟩ (Nat.le_of_ble_eq_true rfl) (Nat.le_of_ble_eq_true rfl) (Nat.le_of_ble_eq_true rfl) (pc' := 7) rfl (k_X4_errorPlace hE.1.2.2.2.2.2.2.2.2 hE.2.2.2.2.1) (fun q1 hq1 eq1 => ?_) (fun _ _ x1 => x1.elim)
  obtain ⟨rfl, r2, rfl, hr2⟩ := eq1
  refine X.iret dX5_firstError_7 (Or.inl rfl) (Nat.le_of_ble_eq_true rfl) (Nat.le_of_ble_eq_true rfl) ?_
  subst hPR
  exact ⟨rfl, _, rfl, hr2⟩
set_option maxHeartbeats 4000000 in
set_option maxRecDepth 100000 in
theorem k_X5_talk {Ω : xO} {h : xM} {x lo : Nat} {L : lS} (hE : EL h x lo L) : xCt Ω yX5_talk cX5_talk 2 (some .int) rm_X5_talk [rf x] h (fun q h' => acc (rn (lTg L) (lTn L)) ∧ q = some (vi (aW (tk L) - aW (lA L))) ∧ EL h' x lo (sTx (sA (sSave L) (tk L)) 0 (lTg L)) ∧ EF h h' x lo) (PX3 (acc (rn (lTg L) (lTn L))) (True) (True) xIA xIS xIS h) := by
  refine xCt_of (ini := false) (by decide +kernel) (Nat.le_of_ble_eq_true rfl) (fun q => absurd q (by decide)) ?_
  generalize hPR : (fun q h' => acc (rn (lTg L) (lTn L)) ∧ q = some (vi (aW (tk L) - aW (lA L))) ∧ EL h' x lo (sTx (sA (sSave L) (tk L)) 0 (lTg L)) ∧ EF h h' x lo : Option xV → xM → Prop) = PR
  generalize hPX : (PX3 (acc (rn (lTg L) (lTn L))) (True) (True) xIA xIS xIS h : String → xM → Prop) = PX
  have K0 : X Ω RX5 cX5_talk 2 (some .int) false rm_X5_talk PR PX 0 0 0 [some (rf x), none] [] h := ?_
  exact K0
  have okA : aOK (lA L) := hE.2.1.1.2.1
  obtain ⟨okB, okN, okWl, okS, okW, okM, okC, okH⟩ := id hE.2.1.1.2.1
  have hlo := hE.2.2.2.2.2.2
  have hz6 := hE.2.2.1.2.2.1
  have hnB : mI h (x + 1) 0 = aB (lA L) := hE.2.1.1.2.2.1
  have hnW : mI h (x + 1) 1 = aW (lA L) := hE.2.1.1.2.2.2.1
  have hHz : mI h (x + 31) 0 = lZ L := hE.2.2.1.2.1
  have hTn : mI h (x + 33) 0 = lTn L := hE.2.2.2.2.1.1
  have hTr := hE.2.2.2.2.1.2.1
  refine X.aload_n (i := 0) rfl rfl dX5_talk_0 (pc' := 1) rfl ?_
  refine X.getR fk_X5_35 xcl_5 dX5_talk_1 hE.1.1 hE.1.2.2.2.2.1 (pc' := 4) rfl ?_
  refine X.callV (ci := 4) (a := (x + 33)) (rm := rm_X4_isComplete) (As := []) (st := []) dX5_talk_4 ck_X5_113 rfl (by decide) hE.1.2.2.2.2.2.2.2.2.1 rfl rfl ⟨Nat.le_of_ble_eq_true rfl, Nat.le_of_ble_eq_true rfl⟩ (Nat.le_of_ble_eq_true rfl) (Nat.le_of_ble_eq_true rfl) (Nat.le_of_ble_eq_true rfl) (pc' := 7) rfl (k_X4_isComplete hE.1.2.2.2.2.2.2.2.2 hE.2.2.2.2.1) (fun q1 hq1 eq1 => ?_) (fun _ _ x1 => x1.elim)
  obtain ⟨rfl, r0, rfl, hr0⟩ := eq1
  have hr01 : r0 = 0 ∨ r0 = 1 := by rcases hr0 with z | z <;> omega
  refine X.callS (rm := rm_X5_require) (As := [vi r0]) (st := []) dX5_talk_7 ck_X5_47 rfl rfl ⟨Nat.le_of_ble_eq_true rfl, Nat.le_of_ble_eq_true rfl⟩ (Nat.le_of_ble_eq_true rfl) (Nat.le_of_ble_eq_true rfl) (Nat.le_of_ble_eq_true rfl) (pc' := 10) rfl (k_X5_require (by omega)) (fun q2 hq2 eq2 => ?_) (fun E1 z1 x1 => ?_)
  rotate_left
  · subst hPX
    obtain ⟨e, hh, n, hn, rfl⟩ := x1
    rcases hr0 with z | z
    · omega
    · exact ⟨⟨n, hn, rfl⟩, Or.inl ⟨z.1, e⟩⟩
  obtain ⟨rfl, rfl, hrq⟩ := eq2
  have hC : acc (rn (lTg L) (lTn L)) := by
    rcases hr0 with z | z
    · exact z.1
    · omega
  refine X.aload_n (i := 0) rfl rfl dX5_talk_10 (pc' := 11) rfl ?_
  refine X.getR fk_X5_28 xcl_5 dX5_talk_11 hE.1.1 hE.1.2.2.2.1 (pc' := 14) rfl ?_
  refine X.aload_n (i := 0) rfl rfl dX5_talk_14 (pc' := 15) rfl ?_
  refine X.getR fk_X5_10 xcl_5 dX5_talk_15 hE.1.1 hE.1.2.1 (pc' := 18) rfl ?_
  refine X.callV (ci := 2) (a := (x + 31)) (rm := rm_X2_save) (As := [rf ((x + 1))]) (st := []) dX5_talk_18 ck_X5_62 rfl (by decide) hE.1.2.2.2.2.2.2.2.1.1 rfl rfl ⟨Nat.le_of_ble_eq_true rfl, Nat.le_of_ble_eq_true rfl⟩ (Nat.le_of_ble_eq_true rfl) (Nat.le_of_ble_eq_true rfl) (Nat.le_of_ble_eq_true rfl) (pc' := 21) rfl (k_X2_save hE.2.2.1 hE.2.1 (by omega) (by omega) (by omega)) (fun q3 hq3 eq3 => ?_) (fun _ _ x1 => x1.elim)
  obtain ⟨rfl, hHs, hFs⟩ := eq3
  have hE2 := hE.save hHs hFs
  have hR2 : RC hq3 (x + 1) (lA L) := hE2.1.2.1
  have hT2 : TR hq3 (x + 33) (lTn L) (lTg L) := hE2.1.2.2.2.2.1
  refine X.aload_n (i := 0) rfl rfl dX5_talk_21 (pc' := 22) rfl ?_
  refine X.getR fk_X5_10 xcl_5 dX5_talk_22 hE2.1.1.1 hE2.1.1.2.1 (pc' := 25) rfl ?_
  refine X.getI (x := aW (lA L)) fk_X5_116 xcl_0 dX5_talk_25 (by decide) hR2.1.1.1 hR2.1.2.2.2.1 (pc' := 28) rfl (fun r4 => ?_)
  obtain ⟨r4a, r4b⟩ := r4
  refine X.gen (fun w0 hw0 => ?_)
  refine X.istore_n (i := 1) (ls' := [some (rf x), some (vi w0)]) (hi := rfl) (hd := dX5_talk_28) (by decide) rfl rfl (pc' := 29) rfl ?_
  refine X.aload_n (i := 0) rfl rfl dX5_talk_29 (pc' := 30) rfl ?_
  refine X.getR fk_X5_35 xcl_5 dX5_talk_30 hE2.1.1.1 hE2.1.1.2.2.2.2.1 (pc' := 33) rfl ?_
  refine X.aload_n (i := 0) rfl rfl dX5_talk_33 (pc' := 34) rfl ?_
  refine X.getR fk_X5_10 xcl_5 dX5_talk_34 hE2.1.1.1 hE2.1.1.2.1 (pc' := 37) rfl ?_
  refine X.callV (ci := 4) (a := (x + 33)) (rm := rm_X4_happenIn) (As := [rf ((x + 1))]) (st := []) dX5_talk_37 ck_X5_119 rfl (by decide) hE2.1.1.2.2.2.2.2.2.2.2.1 rfl rfl ⟨Nat.le_of_ble_eq_true rfl, Nat.le_of_ble_eq_true rfl⟩ (Nat.le_of_ble_eq_true rfl) (Nat.le_of_ble_eq_true rfl) (Nat.le_of_ble_eq_true rfl) (pc' := 40) rfl (k_X4_happenIn hE2.1.1.2.2.2.2.2.2.2.2 hT2 hR2 (Or.inr (by omega)) hC hE.2.2.2.2.2.1.1) (fun q5 hq5 eq5 => ?_) (fun _ _ x1 => x1.elim)
  obtain ⟨rfl, hFr, hRE, hps⟩ := eq5
  have hE3 := hE2.1.now hRE hFr hps
  have hW3 : mI hq5 (x + 1) 1 = aW (tk L) := hRE.1.2.2.2.1
  have hWr := hRE.1.2.1.2.1
  have hWr2 : 0 ≤ aW (tk L) ∧ aW (tk L) ≤ 200 := hWr
  refine X.aload_n (i := 0) rfl rfl dX5_talk_40 (pc' := 41) rfl ?_
  refine X.getR fk_X5_35 xcl_5 dX5_talk_41 hE3.1.1.1 hE3.1.1.2.2.2.2.1 (pc' := 44) rfl ?_
  refine X.iconst dX5_talk_44 (pc' := 45) rfl ?_
  refine X.putI fk_X5_100 xcl_4 ⟨_, rfl, Or.inl rfl⟩ dX5_talk_45 (Or.inl rfl) ⟨by omega, by omega⟩ hE3.1.1.2.2.2.2.2.2.2.2.1 (pc' := 48) rfl ?_
  refine X.genH (fun h6 hh6 => ?_)
  have wh6 : ∀ (w0 : Nat) (w1 : Int), mI h6 w0 w1 = if w0 = (x + 33) ∧ w1 = 0 then 0 else mI hq5 w0 w1 := fun _ _ => by rw [hh6]; rfl
  have S7 : ElS h6 x := by rw [hh6]; exact hE3.1.1
  refine X.aload_n (i := 0) rfl rfl dX5_talk_48 (pc' := 49) rfl ?_
  refine X.getR fk_X5_10 xcl_5 dX5_talk_49 S7.1 S7.2.1 (pc' := 52) rfl ?_
  have hW4 : mI h6 (x + 1) 1 = aW (tk L) := by rw [wh6, if_neg (by omega)]; exact hW3
  refine X.getI (x := mI h6 ((x + 1)) 1) fk_X5_116 xcl_0 dX5_talk_52 (by decide) S7.2.2.2.2.2.1.1 rfl (pc' := 55) rfl (fun r8 => ?_)
  obtain ⟨r8a, r8b⟩ := r8
  refine X.iload_n (i := 1) rfl rfl dX5_talk_55 (pc' := 56) rfl ?_
  refine X.isub dX5_talk_56 (pc' := 57) rfl ?_
  refine X.iret dX5_talk_57 (Or.inl rfl) (Nat.le_of_ble_eq_true rfl) (Nat.le_of_ble_eq_true rfl) ?_
  subst hPR
  have hE4 := hE3.1.text (g := h6) (n := 0) (G := lTg L) (by rw [hh6]; rfl) (by rw [hh6]; rfl) (by rw [hh6]; rfl) (by rw [hh6]; rfl) (fun q z1 z2 => funext fun j => by rw [wh6, if_neg (fun y => z1 y.1)]) ⟨by rw [wh6, if_pos ⟨rfl, rfl⟩], ⟨by decide, by decide⟩, fun j z1 z2 => by omega⟩
  exact ⟨hC, by rw [hW4, hw0], hE4.1, (hE2.2.tr hE3.2).tr hE4.2⟩
set_option maxHeartbeats 4000000 in
set_option maxRecDepth 100000 in
theorem k_X6_isNow {Ω : xO} {h : xM} {m : Nat} {n w a : Int} {G : Int → Int} {l c : Int} (hS : MoS h m) (hT : TS h m n G w a) (hl : inR l) (hc : inR c) : xCt Ω yX6_isNow cX6_isNow 3 (some .boolean) rm_X6_isNow [rf m, vi l, vi c] h (fun q h' => h = h' ∧ ∃ r, q = some (vi r) ∧ (((w = 0 ∧ a < n ∧ l ≤ G a ∧ G a ≤ c) ∧ r = 1) ∨ (¬ (w = 0 ∧ a < n ∧ l ≤ G a ∧ G a ≤ c) ∧ r = 0))) xNo := by
  refine xCt_of (ini := false) (by decide +kernel) (Nat.le_of_ble_eq_true rfl) (fun q => absurd q (by decide)) ?_
  generalize hPR : (fun q h' => h = h' ∧ ∃ r, q = some (vi r) ∧ (((w = 0 ∧ a < n ∧ l ≤ G a ∧ G a ≤ c) ∧ r = 1) ∨ (¬ (w = 0 ∧ a < n ∧ l ≤ G a ∧ G a ≤ c) ∧ r = 0)) : Option xV → xM → Prop) = PR
  have K0 : X Ω RX6 cX6_isNow 3 (some .boolean) false rm_X6_isNow PR xNo 0 0 0 [some (rf m), some (vi l), some (vi c)] [] h := ?_
  exact K0
  obtain ⟨⟨t5, t6, t7⟩, tw, ta, hT4⟩ := id hT
  obtain ⟨hl1, hl2⟩ := hl
  obtain ⟨hc1, hc2⟩ := hc
  refine X.aload_n (i := 0) rfl rfl dX6_isNow_0 (pc' := 1) rfl ?_
  refine X.getI (x := mI h m 7) fk_X6_78 xcl_6 dX6_isNow_1 (by decide) hS.1 rfl (pc' := 4) rfl (fun r1 => ?_)
  obtain ⟨r1a, r1b⟩ := r1
  refine X.if_ne (tgt := 39) dX6_isNow_4 ⟨by omega, by omega⟩ (by decide) (pc' := 7) rfl (fun c4 => ?_) (fun c4 => ?_)
  · refine X.iconst dX6_isNow_39 (pc' := 40) rfl ?_
    refine X.iret dX6_isNow_40 (Or.inr ⟨rfl, by omega⟩) (Nat.le_of_ble_eq_true rfl) (Nat.le_of_ble_eq_true rfl) ?_
    subst hPR
    exact ⟨rfl, _, rfl, by omega⟩
  · refine X.aload_n (i := 0) rfl rfl dX6_isNow_7 (pc' := 8) rfl ?_
    refine X.getI (x := mI h m 6) fk_X6_82 xcl_6 dX6_isNow_8 (by decide) hS.1 rfl (pc' := 11) rfl (fun r2 => ?_)
    obtain ⟨r2a, r2b⟩ := r2
    refine X.aload_n (i := 0) rfl rfl dX6_isNow_11 (pc' := 12) rfl ?_
    refine X.getI (x := mI h m 5) fk_X6_75 xcl_6 dX6_isNow_12 (by decide) hS.1 rfl (pc' := 15) rfl (fun r3 => ?_)
    obtain ⟨r3a, r3b⟩ := r3
    refine X.icmp_ge (tgt := 39) dX6_isNow_15 ⟨by omega, by omega⟩ ⟨by omega, by omega⟩ (by decide) (pc' := 18) rfl (fun c15 => ?_) (fun c15 => ?_)
    · refine X.iconst dX6_isNow_39 (pc' := 40) rfl ?_
      refine X.iret dX6_isNow_40 (Or.inr ⟨rfl, by omega⟩) (Nat.le_of_ble_eq_true rfl) (Nat.le_of_ble_eq_true rfl) ?_
      subst hPR
      exact ⟨rfl, _, rfl, by omega⟩
    · refine X.aload_n (i := 0) rfl rfl dX6_isNow_18 (pc' := 19) rfl ?_
      refine X.getR fk_X6_14 xcl_6 dX6_isNow_19 hS.1 hS.2.2.2.1 (pc' := 22) rfl ?_
      refine X.aload_n (i := 0) rfl rfl dX6_isNow_22 (pc' := 23) rfl ?_
      refine X.getI (x := mI h m 6) fk_X6_82 xcl_6 dX6_isNow_23 (by decide) hS.1 rfl (pc' := 26) rfl (fun r4 => ?_)
      obtain ⟨r4a, r4b⟩ := r4
      refine X.cald (x := G a) dX6_isNow_26 hS.2.2.2.2.1 (by omega) (by omega) ⟨by omega, by omega⟩ (mI_at (hT4 a (by omega) (by omega)).1 (by omega)) (pc' := 27) rfl (fun r5 => ?_)
      obtain ⟨r5a, r5b⟩ := r5
      have r5c := (hT4 a (by omega) (by omega)).2
      refine X.iload_n (i := 1) rfl rfl dX6_isNow_27 (pc' := 28) rfl ?_
      refine X.iload_n (i := 2) rfl rfl dX6_isNow_28 (pc' := 29) rfl ?_
      refine X.callS (rm := rm_X6_in) (As := [vi (G a), vi l, vi c]) (st := []) dX6_isNow_29 ck_X6_32 rfl rfl ⟨Nat.le_of_ble_eq_true rfl, Nat.le_of_ble_eq_true rfl⟩ (Nat.le_of_ble_eq_true rfl) (Nat.le_of_ble_eq_true rfl) (Nat.le_of_ble_eq_true rfl) (pc' := 32) rfl (k_X6_in ⟨by omega, by omega⟩ ⟨by omega, by omega⟩ ⟨by omega, by omega⟩) (fun q6 hq6 eq6 => ?_) (fun _ _ x1 => x1.elim)
      obtain ⟨rfl, r7, rfl, hr7⟩ := eq6
      refine X.if_eq (tgt := 39) dX6_isNow_32 ⟨by omega, by omega⟩ (by decide) (pc' := 35) rfl (fun c32 => ?_) (fun c32 => ?_)
      · refine X.iconst dX6_isNow_39 (pc' := 40) rfl ?_
        refine X.iret dX6_isNow_40 (Or.inr ⟨rfl, by omega⟩) (Nat.le_of_ble_eq_true rfl) (Nat.le_of_ble_eq_true rfl) ?_
        subst hPR
        exact ⟨rfl, _, rfl, by omega⟩
      · refine X.iconst dX6_isNow_35 (pc' := 36) rfl ?_
        refine X.goto (tgt := 40) dX6_isNow_36 (by decide) ?_
        refine X.iret dX6_isNow_40 (Or.inr ⟨rfl, by omega⟩) (Nat.le_of_ble_eq_true rfl) (Nat.le_of_ble_eq_true rfl) ?_
        subst hPR
        exact ⟨rfl, _, rfl, by omega⟩
set_option maxHeartbeats 4000000 in
set_option maxRecDepth 100000 in
theorem k_X6_sign {Ω : xO} {h : xM} {m : Nat} {n w a : Int} {G : Int → Int} {c : Int} (hS : MoS h m) (hT : TS h m n G w a) (hc : inR c) : xCt Ω yX6_sign cX6_sign 2 none rm_X6_sign [rf m, vi c] h (fun q h' => q = none ∧ FP h h' m ∧ ∃ w1 a1, TS h' m n G w1 a1 ∧ ((w1 = 0 ∧ a1 = a + 1 ∧ w = 0 ∧ a < n ∧ G a = c) ∨ (w1 = 1 ∧ a1 = a ∧ ¬ (w = 0 ∧ a < n ∧ G a = c)))) xNo := by
  refine xCt_of (ini := false) (by decide +kernel) (Nat.le_of_ble_eq_true rfl) (fun q => absurd q (by decide)) ?_
  generalize hPR : (fun q h' => q = none ∧ FP h h' m ∧ ∃ w1 a1, TS h' m n G w1 a1 ∧ ((w1 = 0 ∧ a1 = a + 1 ∧ w = 0 ∧ a < n ∧ G a = c) ∨ (w1 = 1 ∧ a1 = a ∧ ¬ (w = 0 ∧ a < n ∧ G a = c))) : Option xV → xM → Prop) = PR
  have K0 : X Ω RX6 cX6_sign 2 none false rm_X6_sign PR xNo 0 0 0 [some (rf m), some (vi c)] [] h := ?_
  exact K0
  obtain ⟨⟨t5, t6, t7⟩, tw, ta, hT4⟩ := id hT
  obtain ⟨hc1, hc2⟩ := id hc
  refine X.aload_n (i := 0) rfl rfl dX6_sign_0 (pc' := 1) rfl ?_
  refine X.aload_n (i := 0) rfl rfl dX6_sign_1 (pc' := 2) rfl ?_
  refine X.getI (x := mI h m 7) fk_X6_78 xcl_6 dX6_sign_2 (by decide) hS.1 rfl (pc' := 5) rfl (fun r1 => ?_)
  obtain ⟨r1a, r1b⟩ := r1
  refine X.if_ne (tgt := 17) dX6_sign_5 ⟨by omega, by omega⟩ (by decide) (pc' := 8) rfl (fun c5 => ?_) (fun c5 => ?_)
  · refine X.iconst dX6_sign_17 (pc' := 18) rfl ?_
    refine X.goto (tgt := 22) dX6_sign_18 (by decide) ?_
    refine X.putI fk_X6_78 xcl_6 ⟨_, rfl, Or.inl rfl⟩ dX6_sign_22 (Or.inr ⟨rfl, by omega⟩) ⟨by omega, by omega⟩ hS.1 (pc' := 25) rfl ?_
    refine X.genH (fun h2 hh2 => ?_)
    have wh2 : ∀ (w0 : Nat) (w1 : Int), mI h2 w0 w1 = if w0 = m ∧ w1 = 7 then 1 else mI h w0 w1 := fun _ _ => by rw [hh2]; rfl
    have S3 : MoS h2 m := by rw [hh2]; exact hS
    have a6 : mI h2 m 6 = a := by rw [wh2, if_neg (by omega)]; exact t6
    have a7 : mI h2 m 7 = 1 := by rw [wh2, if_pos ⟨rfl, rfl⟩]
    refine X.aload_n (i := 0) rfl rfl dX6_sign_25 (pc' := 26) rfl ?_
    refine X.dup rfl dX6_sign_26 (pc' := 27) rfl ?_
    refine X.getI (x := mI h2 m 6) fk_X6_82 xcl_6 dX6_sign_27 (by decide) S3.1 rfl (pc' := 30) rfl (fun r4 => ?_)
    obtain ⟨r4a, r4b⟩ := r4
    refine X.aload_n (i := 0) rfl rfl dX6_sign_30 (pc' := 31) rfl ?_
    refine X.getI (x := mI h2 m 7) fk_X6_78 xcl_6 dX6_sign_31 (by decide) S3.1 rfl (pc' := 34) rfl (fun r5 => ?_)
    obtain ⟨r5a, r5b⟩ := r5
    refine X.if_eq (tgt := 41) dX6_sign_34 ⟨by omega, by omega⟩ (by decide) (pc' := 37) rfl (fun c34 => by exfalso; omega) (fun c34 => ?_)
    refine X.iconst dX6_sign_37 (pc' := 38) rfl ?_
    refine X.goto (tgt := 42) dX6_sign_38 (by decide) ?_
    refine X.iadd dX6_sign_42 (pc' := 43) rfl ?_
    refine X.putI fk_X6_82 xcl_6 ⟨_, rfl, Or.inl rfl⟩ dX6_sign_43 (Or.inl rfl) ⟨by omega, by omega⟩ S3.1 (pc' := 46) rfl ?_
    refine X.genH (fun h6 hh6 => ?_)
    have wh6 : ∀ (w0 : Nat) (w1 : Int), mI h6 w0 w1 = if w0 = m ∧ w1 = 6 then (mI h2 m 6) + 0 else mI h2 w0 w1 := fun _ _ => by rw [hh6]; rfl
    have S7 : MoS h6 m := by rw [hh6]; exact S3
    refine X.vret dX6_sign_46 rfl (Nat.le_of_ble_eq_true rfl) (Nat.le_of_ble_eq_true rfl) ?_
    subst hPR
    have hF : FP h h6 m := by rw [hh6, hh2]; exact FP.w (FP.w FP.rf (by omega)) (by omega)
    exact ⟨rfl, hF, 1, a, hT.ft hF.ft (by rw [wh6, if_pos ⟨rfl, rfl⟩, a6]; omega) (by rw [wh6, if_neg (by omega)]; exact a7) (by omega) ⟨by omega, by omega⟩, by omega⟩
  · refine X.aload_n (i := 0) rfl rfl dX6_sign_8 (pc' := 9) rfl ?_
    refine X.iload_n (i := 1) rfl rfl dX6_sign_9 (pc' := 10) rfl ?_
    refine X.iload_n (i := 1) rfl rfl dX6_sign_10 (pc' := 11) rfl ?_
    refine X.callV (ci := 6) (a := m) (rm := rm_X6_isNow) (As := [vi c, vi c]) (st := [rf m]) dX6_sign_11 ck_X6_85 rfl (by decide) hS.1 rfl rfl ⟨Nat.le_of_ble_eq_true rfl, Nat.le_of_ble_eq_true rfl⟩ (Nat.le_of_ble_eq_true rfl) (Nat.le_of_ble_eq_true rfl) (Nat.le_of_ble_eq_true rfl) (pc' := 14) rfl (k_X6_isNow hS hT hc hc) (fun q8 hq8 eq8 => ?_) (fun _ _ x1 => x1.elim)
    obtain ⟨rfl, r9, rfl, hr9⟩ := eq8
    refine X.if_ne (tgt := 21) dX6_sign_14 ⟨by omega, by omega⟩ (by decide) (pc' := 17) rfl (fun c14 => ?_) (fun c14 => ?_)
    · refine X.iconst dX6_sign_21 (pc' := 22) rfl ?_
      refine X.putI fk_X6_78 xcl_6 ⟨_, rfl, Or.inl rfl⟩ dX6_sign_22 (Or.inr ⟨rfl, by omega⟩) ⟨by omega, by omega⟩ hS.1 (pc' := 25) rfl ?_
      refine X.genH (fun h10 hh10 => ?_)
      have wh10 : ∀ (w0 : Nat) (w1 : Int), mI h10 w0 w1 = if w0 = m ∧ w1 = 7 then 0 else mI h w0 w1 := fun _ _ => by rw [hh10]; rfl
      have S11 : MoS h10 m := by rw [hh10]; exact hS
      have a6 : mI h10 m 6 = a := by rw [wh10, if_neg (by omega)]; exact t6
      have a7 : mI h10 m 7 = 0 := by rw [wh10, if_pos ⟨rfl, rfl⟩]
      refine X.aload_n (i := 0) rfl rfl dX6_sign_25 (pc' := 26) rfl ?_
      refine X.dup rfl dX6_sign_26 (pc' := 27) rfl ?_
      refine X.getI (x := mI h10 m 6) fk_X6_82 xcl_6 dX6_sign_27 (by decide) S11.1 rfl (pc' := 30) rfl (fun r12 => ?_)
      obtain ⟨r12a, r12b⟩ := r12
      refine X.aload_n (i := 0) rfl rfl dX6_sign_30 (pc' := 31) rfl ?_
      refine X.getI (x := mI h10 m 7) fk_X6_78 xcl_6 dX6_sign_31 (by decide) S11.1 rfl (pc' := 34) rfl (fun r13 => ?_)
      obtain ⟨r13a, r13b⟩ := r13
      refine X.if_eq (tgt := 41) dX6_sign_34 ⟨by omega, by omega⟩ (by decide) (pc' := 37) rfl (fun c34 => ?_) (fun c34 => by exfalso; omega)
      refine X.iconst dX6_sign_41 (pc' := 42) rfl ?_
      refine X.iadd dX6_sign_42 (pc' := 43) rfl ?_
      refine X.putI fk_X6_82 xcl_6 ⟨_, rfl, Or.inl rfl⟩ dX6_sign_43 (Or.inl rfl) ⟨by omega, by omega⟩ S11.1 (pc' := 46) rfl ?_
      refine X.genH (fun h14 hh14 => ?_)
      have wh14 : ∀ (w0 : Nat) (w1 : Int), mI h14 w0 w1 = if w0 = m ∧ w1 = 6 then (mI h10 m 6) + 1 else mI h10 w0 w1 := fun _ _ => by rw [hh14]; rfl
      have S15 : MoS h14 m := by rw [hh14]; exact S11
      refine X.vret dX6_sign_46 rfl (Nat.le_of_ble_eq_true rfl) (Nat.le_of_ble_eq_true rfl) ?_
      subst hPR
      have hF : FP h h14 m := by rw [hh14, hh10]; exact FP.w (FP.w FP.rf (by omega)) (by omega)
      exact ⟨rfl, hF, 0, a + 1, hT.ft hF.ft (by rw [wh14, if_pos ⟨rfl, rfl⟩, a6]) (by rw [wh14, if_neg (by omega)]; exact a7) (by omega) ⟨by omega, by omega⟩, by omega⟩
    · refine X.iconst dX6_sign_17 (pc' := 18) rfl ?_
      refine X.goto (tgt := 22) dX6_sign_18 (by decide) ?_
      refine X.putI fk_X6_78 xcl_6 ⟨_, rfl, Or.inl rfl⟩ dX6_sign_22 (Or.inr ⟨rfl, by omega⟩) ⟨by omega, by omega⟩ hS.1 (pc' := 25) rfl ?_
      refine X.genH (fun h16 hh16 => ?_)
      have wh16 : ∀ (w0 : Nat) (w1 : Int), mI h16 w0 w1 = if w0 = m ∧ w1 = 7 then 1 else mI h w0 w1 := fun _ _ => by rw [hh16]; rfl
      have S17 : MoS h16 m := by rw [hh16]; exact hS
      have a6 : mI h16 m 6 = a := by rw [wh16, if_neg (by omega)]; exact t6
      have a7 : mI h16 m 7 = 1 := by rw [wh16, if_pos ⟨rfl, rfl⟩]
      refine X.aload_n (i := 0) rfl rfl dX6_sign_25 (pc' := 26) rfl ?_
      refine X.dup rfl dX6_sign_26 (pc' := 27) rfl ?_
      refine X.getI (x := mI h16 m 6) fk_X6_82 xcl_6 dX6_sign_27 (by decide) S17.1 rfl (pc' := 30) rfl (fun r18 => ?_)
      obtain ⟨r18a, r18b⟩ := r18
      refine X.aload_n (i := 0) rfl rfl dX6_sign_30 (pc' := 31) rfl ?_
      refine X.getI (x := mI h16 m 7) fk_X6_78 xcl_6 dX6_sign_31 (by decide) S17.1 rfl (pc' := 34) rfl (fun r19 => ?_)
      obtain ⟨r19a, r19b⟩ := r19
      refine X.if_eq (tgt := 41) dX6_sign_34 ⟨by omega, by omega⟩ (by decide) (pc' := 37) rfl (fun c34 => by exfalso; omega) (fun c34 => ?_)
      refine X.iconst dX6_sign_37 (pc' := 38) rfl ?_
      refine X.goto (tgt := 42) dX6_sign_38 (by decide) ?_
      refine X.iadd dX6_sign_42 (pc' := 43) rfl ?_
      refine X.putI fk_X6_82 xcl_6 ⟨_, rfl, Or.inl rfl⟩ dX6_sign_43 (Or.inl rfl) ⟨by omega, by omega⟩ S17.1 (pc' := 46) rfl ?_
      refine X.genH (fun h20 hh20 => ?_)
      have wh20 : ∀ (w0 : Nat) (w1 : Int), mI h20 w0 w1 = if w0 = m ∧ w1 = 6 then (mI h16 m 6) + 0 else mI h16 w0 w1 := fun _ _ => by rw [hh20]; rfl
      have S21 : MoS h20 m := by rw [hh20]; exact S17
      refine X.vret dX6_sign_46 rfl (Nat.le_of_ble_eq_true rfl) (Nat.le_of_ble_eq_true rfl) ?_
      subst hPR
      have hF : FP h h20 m := by rw [hh20, hh16]; exact FP.w (FP.w FP.rf (by omega)) (by omega)
      exact ⟨rfl, hF, 1, a, hT.ft hF.ft (by rw [wh20, if_pos ⟨rfl, rfl⟩, a6]; omega) (by rw [wh20, if_neg (by omega)]; exact a7) (by omega) ⟨by omega, by omega⟩, by omega⟩
set_option maxHeartbeats 4000000 in
set_option maxRecDepth 100000 in
theorem k_X6_digit {Ω : xO} {h : xM} {m : Nat} {n w a : Int} {G : Int → Int} {d : Int} (hS : MoS h m) (hT : TS h m n G w a) (hd : 0 ≤ d ∧ d ≤ 9) : xCt Ω yX6_digit cX6_digit 2 (some .int) rm_X6_digit [rf m, vi d] h (fun q h' => FP h h' m ∧ ∃ r, q = some (vi r) ∧ ∃ w1 a1, TS h' m n G w1 a1 ∧ ((w1 = 0 ∧ a1 = a + 1 ∧ r = G a - 48 ∧ w = 0 ∧ a < n ∧ (48 ≤ G a ∧ G a ≤ 48 + d)) ∨ (w1 = 1 ∧ a1 = a ∧ r = 0 ∧ ¬ (w = 0 ∧ a < n ∧ 48 ≤ G a ∧ G a ≤ 48 + d)))) xNo := by
  refine xCt_of (ini := false) (by decide +kernel) (Nat.le_of_ble_eq_true rfl) (fun q => absurd q (by decide)) ?_
  generalize hPR : (fun q h' => FP h h' m ∧ ∃ r, q = some (vi r) ∧ ∃ w1 a1, TS h' m n G w1 a1 ∧ ((w1 = 0 ∧ a1 = a + 1 ∧ r = G a - 48 ∧ w = 0 ∧ a < n ∧ (48 ≤ G a ∧ G a ≤ 48 + d)) ∨ (w1 = 1 ∧ a1 = a ∧ r = 0 ∧ ¬ (w = 0 ∧ a < n ∧ 48 ≤ G a ∧ G a ≤ 48 + d))) : Option xV → xM → Prop) = PR
  have K0 : X Ω RX6 cX6_digit 2 (some .int) false rm_X6_digit PR xNo 0 0 0 [some (rf m), some (vi d)] [] h := ?_
  exact K0
  obtain ⟨⟨t5, t6, t7⟩, tw, ta, hT4⟩ := id hT
  refine X.aload_n (i := 0) rfl rfl dX6_digit_0 (pc' := 1) rfl ?_
  refine X.aload_n (i := 0) rfl rfl dX6_digit_1 (pc' := 2) rfl ?_
  refine X.getI (x := mI h m 7) fk_X6_78 xcl_6 dX6_digit_2 (by decide) hS.1 rfl (pc' := 5) rfl (fun r1 => ?_)
  obtain ⟨r1a, r1b⟩ := r1
  refine X.if_ne (tgt := 21) dX6_digit_5 ⟨by omega, by omega⟩ (by decide) (pc' := 8) rfl (fun c5 => ?_) (fun c5 => ?_)
  · refine X.iconst dX6_digit_21 (pc' := 22) rfl ?_
    refine X.goto (tgt := 26) dX6_digit_22 (by decide) ?_
    refine X.putI fk_X6_78 xcl_6 ⟨_, rfl, Or.inl rfl⟩ dX6_digit_26 (Or.inr ⟨rfl, by omega⟩) ⟨by omega, by omega⟩ hS.1 (pc' := 29) rfl ?_
    refine X.genH (fun h2 hh2 => ?_)
    have wh2 : ∀ (w0 : Nat) (w1 : Int), mI h2 w0 w1 = if w0 = m ∧ w1 = 7 then 1 else mI h w0 w1 := fun _ _ => by rw [hh2]; rfl
    have S3 : MoS h2 m := by rw [hh2]; exact hS
    have a6 : mI h2 m 6 = a := by rw [wh2, if_neg (by omega)]; exact t6
    have a7 : mI h2 m 7 = 1 := by rw [wh2, if_pos ⟨rfl, rfl⟩]
    refine X.aload_n (i := 0) rfl rfl dX6_digit_29 (pc' := 30) rfl ?_
    refine X.dup rfl dX6_digit_30 (pc' := 31) rfl ?_
    refine X.getI (x := mI h2 m 6) fk_X6_82 xcl_6 dX6_digit_31 (by decide) S3.1 rfl (pc' := 34) rfl (fun r4 => ?_)
    obtain ⟨r4a, r4b⟩ := r4
    refine X.aload_n (i := 0) rfl rfl dX6_digit_34 (pc' := 35) rfl ?_
    refine X.getI (x := mI h2 m 7) fk_X6_78 xcl_6 dX6_digit_35 (by decide) S3.1 rfl (pc' := 38) rfl (fun r5 => ?_)
    obtain ⟨r5a, r5b⟩ := r5
    refine X.if_eq (tgt := 45) dX6_digit_38 ⟨by omega, by omega⟩ (by decide) (pc' := 41) rfl (fun c38 => by exfalso; omega) (fun c38 => ?_)
    refine X.iconst dX6_digit_41 (pc' := 42) rfl ?_
    refine X.goto (tgt := 46) dX6_digit_42 (by decide) ?_
    refine X.iadd dX6_digit_46 (pc' := 47) rfl ?_
    refine X.putI fk_X6_82 xcl_6 ⟨_, rfl, Or.inl rfl⟩ dX6_digit_47 (Or.inl rfl) ⟨by omega, by omega⟩ S3.1 (pc' := 50) rfl ?_
    refine X.genH (fun h6 hh6 => ?_)
    have wh6 : ∀ (w0 : Nat) (w1 : Int), mI h6 w0 w1 = if w0 = m ∧ w1 = 6 then (mI h2 m 6) + 0 else mI h2 w0 w1 := fun _ _ => by rw [hh6]; rfl
    have S7 : MoS h6 m := by rw [hh6]; exact S3
    have hF : FP h h6 m := by rw [hh6, hh2]; exact FP.w (FP.w FP.rf (by omega)) (by omega)
    have b7 : mI h6 m 7 = 1 := by rw [wh6, if_neg (by omega)]; exact a7
    have b6 : mI h6 m 6 = a := by rw [wh6, if_pos ⟨rfl, rfl⟩, a6]; omega
    have hTn : TS h6 m n G 1 (a) := hT.ft hF.ft b6 b7 (by omega) ⟨by omega, by omega⟩
    refine X.aload_n (i := 0) rfl rfl dX6_digit_50 (pc' := 51) rfl ?_
    refine X.getI (x := mI h6 m 7) fk_X6_78 xcl_6 dX6_digit_51 (by decide) S7.1 rfl (pc' := 54) rfl (fun r8 => ?_)
    obtain ⟨r8a, r8b⟩ := r8
    refine X.if_eq (tgt := 61) dX6_digit_54 ⟨by omega, by omega⟩ (by decide) (pc' := 57) rfl (fun c54 => by exfalso; omega) (fun c54 => ?_)
    refine X.iconst dX6_digit_57 (pc' := 58) rfl ?_
    refine X.goto (tgt := 75) dX6_digit_58 (by decide) ?_
    refine X.iret dX6_digit_75 (Or.inl rfl) (Nat.le_of_ble_eq_true rfl) (Nat.le_of_ble_eq_true rfl) ?_
    subst hPR
    exact ⟨hF, _, rfl, 1, a, hTn, by omega⟩
  · refine X.aload_n (i := 0) rfl rfl dX6_digit_8 (pc' := 9) rfl ?_
    refine X.bipush (by decide +kernel) dX6_digit_9 (pc' := 11) rfl ?_
    refine X.bipush (by decide +kernel) dX6_digit_11 (pc' := 13) rfl ?_
    refine X.iload_n (i := 1) rfl rfl dX6_digit_13 (pc' := 14) rfl ?_
    refine X.iadd dX6_digit_14 (pc' := 15) rfl ?_
    refine X.callV (ci := 6) (a := m) (rm := rm_X6_isNow) (As := [vi 48, vi (48 + d)]) (st := [rf m]) dX6_digit_15 ck_X6_85 rfl (by decide) hS.1 rfl rfl ⟨Nat.le_of_ble_eq_true rfl, Nat.le_of_ble_eq_true rfl⟩ (Nat.le_of_ble_eq_true rfl) (Nat.le_of_ble_eq_true rfl) (Nat.le_of_ble_eq_true rfl) (pc' := 18) rfl (k_X6_isNow hS hT ⟨by omega, by omega⟩ ⟨by omega, by omega⟩) (fun q9 hq9 eq9 => ?_) (fun _ _ x1 => x1.elim)
    obtain ⟨rfl, r10, rfl, hr10⟩ := eq9
    refine X.if_ne (tgt := 25) dX6_digit_18 ⟨by omega, by omega⟩ (by decide) (pc' := 21) rfl (fun c18 => ?_) (fun c18 => ?_)
    · refine X.iconst dX6_digit_25 (pc' := 26) rfl ?_
      refine X.putI fk_X6_78 xcl_6 ⟨_, rfl, Or.inl rfl⟩ dX6_digit_26 (Or.inr ⟨rfl, by omega⟩) ⟨by omega, by omega⟩ hS.1 (pc' := 29) rfl ?_
      refine X.genH (fun h11 hh11 => ?_)
      have wh11 : ∀ (w0 : Nat) (w1 : Int), mI h11 w0 w1 = if w0 = m ∧ w1 = 7 then 0 else mI h w0 w1 := fun _ _ => by rw [hh11]; rfl
      have S12 : MoS h11 m := by rw [hh11]; exact hS
      have a6 : mI h11 m 6 = a := by rw [wh11, if_neg (by omega)]; exact t6
      have a7 : mI h11 m 7 = 0 := by rw [wh11, if_pos ⟨rfl, rfl⟩]
      refine X.aload_n (i := 0) rfl rfl dX6_digit_29 (pc' := 30) rfl ?_
      refine X.dup rfl dX6_digit_30 (pc' := 31) rfl ?_
      refine X.getI (x := mI h11 m 6) fk_X6_82 xcl_6 dX6_digit_31 (by decide) S12.1 rfl (pc' := 34) rfl (fun r13 => ?_)
      obtain ⟨r13a, r13b⟩ := r13
      refine X.aload_n (i := 0) rfl rfl dX6_digit_34 (pc' := 35) rfl ?_
      refine X.getI (x := mI h11 m 7) fk_X6_78 xcl_6 dX6_digit_35 (by decide) S12.1 rfl (pc' := 38) rfl (fun r14 => ?_)
      obtain ⟨r14a, r14b⟩ := r14
      refine X.if_eq (tgt := 45) dX6_digit_38 ⟨by omega, by omega⟩ (by decide) (pc' := 41) rfl (fun c38 => ?_) (fun c38 => by exfalso; omega)
      refine X.iconst dX6_digit_45 (pc' := 46) rfl ?_
      refine X.iadd dX6_digit_46 (pc' := 47) rfl ?_
      refine X.putI fk_X6_82 xcl_6 ⟨_, rfl, Or.inl rfl⟩ dX6_digit_47 (Or.inl rfl) ⟨by omega, by omega⟩ S12.1 (pc' := 50) rfl ?_
      refine X.genH (fun h15 hh15 => ?_)
      have wh15 : ∀ (w0 : Nat) (w1 : Int), mI h15 w0 w1 = if w0 = m ∧ w1 = 6 then (mI h11 m 6) + 1 else mI h11 w0 w1 := fun _ _ => by rw [hh15]; rfl
      have S16 : MoS h15 m := by rw [hh15]; exact S12
      have hF : FP h h15 m := by rw [hh15, hh11]; exact FP.w (FP.w FP.rf (by omega)) (by omega)
      have b7 : mI h15 m 7 = 0 := by rw [wh15, if_neg (by omega)]; exact a7
      have b6 : mI h15 m 6 = a + 1 := by rw [wh15, if_pos ⟨rfl, rfl⟩, a6]
      have hTn : TS h15 m n G 0 (a + 1) := hT.ft hF.ft b6 b7 (by omega) ⟨by omega, by omega⟩
      refine X.aload_n (i := 0) rfl rfl dX6_digit_50 (pc' := 51) rfl ?_
      refine X.getI (x := mI h15 m 7) fk_X6_78 xcl_6 dX6_digit_51 (by decide) S16.1 rfl (pc' := 54) rfl (fun r17 => ?_)
      obtain ⟨r17a, r17b⟩ := r17
      refine X.if_eq (tgt := 61) dX6_digit_54 ⟨by omega, by omega⟩ (by decide) (pc' := 57) rfl (fun c54 => ?_) (fun c54 => by exfalso; omega)
      refine X.aload_n (i := 0) rfl rfl dX6_digit_61 (pc' := 62) rfl ?_
      refine X.getR fk_X6_14 xcl_6 dX6_digit_62 S16.1 S16.2.2.2.1 (pc' := 65) rfl ?_
      refine X.aload_n (i := 0) rfl rfl dX6_digit_65 (pc' := 66) rfl ?_
      refine X.getI (x := mI h15 m 6) fk_X6_82 xcl_6 dX6_digit_66 (by decide) S16.1 rfl (pc' := 69) rfl (fun r18 => ?_)
      obtain ⟨r18a, r18b⟩ := r18
      refine X.iconst dX6_digit_69 (pc' := 70) rfl ?_
      refine X.isub dX6_digit_70 (pc' := 71) rfl ?_
      refine X.cald (x := G a) dX6_digit_71 S16.2.2.2.2.1 (by omega) (by omega) ⟨by omega, by omega⟩ (mI_at (hTn.2.2.2 a (by omega) (by omega)).1 (by omega)) (pc' := 72) rfl (fun r19 => ?_)
      obtain ⟨r19a, r19b⟩ := r19
      have r19c := (hT4 a (by omega) (by omega)).2
      refine X.bipush (by decide +kernel) dX6_digit_72 (pc' := 74) rfl ?_
      refine X.isub dX6_digit_74 (pc' := 75) rfl ?_
      refine X.iret dX6_digit_75 (Or.inl rfl) (Nat.le_of_ble_eq_true rfl) (Nat.le_of_ble_eq_true rfl) ?_
      subst hPR
      exact ⟨hF, _, rfl, 0, a + 1, hTn, by omega⟩
    · refine X.iconst dX6_digit_21 (pc' := 22) rfl ?_
      refine X.goto (tgt := 26) dX6_digit_22 (by decide) ?_
      refine X.putI fk_X6_78 xcl_6 ⟨_, rfl, Or.inl rfl⟩ dX6_digit_26 (Or.inr ⟨rfl, by omega⟩) ⟨by omega, by omega⟩ hS.1 (pc' := 29) rfl ?_
      refine X.genH (fun h20 hh20 => ?_)
      have wh20 : ∀ (w0 : Nat) (w1 : Int), mI h20 w0 w1 = if w0 = m ∧ w1 = 7 then 1 else mI h w0 w1 := fun _ _ => by rw [hh20]; rfl
      have S21 : MoS h20 m := by rw [hh20]; exact hS
      have a6 : mI h20 m 6 = a := by rw [wh20, if_neg (by omega)]; exact t6
      have a7 : mI h20 m 7 = 1 := by rw [wh20, if_pos ⟨rfl, rfl⟩]
      refine X.aload_n (i := 0) rfl rfl dX6_digit_29 (pc' := 30) rfl ?_
      refine X.dup rfl dX6_digit_30 (pc' := 31) rfl ?_
      refine X.getI (x := mI h20 m 6) fk_X6_82 xcl_6 dX6_digit_31 (by decide) S21.1 rfl (pc' := 34) rfl (fun r22 => ?_)
      obtain ⟨r22a, r22b⟩ := r22
      refine X.aload_n (i := 0) rfl rfl dX6_digit_34 (pc' := 35) rfl ?_
      refine X.getI (x := mI h20 m 7) fk_X6_78 xcl_6 dX6_digit_35 (by decide) S21.1 rfl (pc' := 38) rfl (fun r23 => ?_)
      obtain ⟨r23a, r23b⟩ := r23
      refine X.if_eq (tgt := 45) dX6_digit_38 ⟨by omega, by omega⟩ (by decide) (pc' := 41) rfl (fun c38 => by exfalso; omega) (fun c38 => ?_)
      refine X.iconst dX6_digit_41 (pc' := 42) rfl ?_
      refine X.goto (tgt := 46) dX6_digit_42 (by decide) ?_
      refine X.iadd dX6_digit_46 (pc' := 47) rfl ?_
      refine X.putI fk_X6_82 xcl_6 ⟨_, rfl, Or.inl rfl⟩ dX6_digit_47 (Or.inl rfl) ⟨by omega, by omega⟩ S21.1 (pc' := 50) rfl ?_
      refine X.genH (fun h24 hh24 => ?_)
      have wh24 : ∀ (w0 : Nat) (w1 : Int), mI h24 w0 w1 = if w0 = m ∧ w1 = 6 then (mI h20 m 6) + 0 else mI h20 w0 w1 := fun _ _ => by rw [hh24]; rfl
      have S25 : MoS h24 m := by rw [hh24]; exact S21
      have hF : FP h h24 m := by rw [hh24, hh20]; exact FP.w (FP.w FP.rf (by omega)) (by omega)
      have b7 : mI h24 m 7 = 1 := by rw [wh24, if_neg (by omega)]; exact a7
      have b6 : mI h24 m 6 = a := by rw [wh24, if_pos ⟨rfl, rfl⟩, a6]; omega
      have hTn : TS h24 m n G 1 (a) := hT.ft hF.ft b6 b7 (by omega) ⟨by omega, by omega⟩
      refine X.aload_n (i := 0) rfl rfl dX6_digit_50 (pc' := 51) rfl ?_
      refine X.getI (x := mI h24 m 7) fk_X6_78 xcl_6 dX6_digit_51 (by decide) S25.1 rfl (pc' := 54) rfl (fun r26 => ?_)
      obtain ⟨r26a, r26b⟩ := r26
      refine X.if_eq (tgt := 61) dX6_digit_54 ⟨by omega, by omega⟩ (by decide) (pc' := 57) rfl (fun c54 => by exfalso; omega) (fun c54 => ?_)
      refine X.iconst dX6_digit_57 (pc' := 58) rfl ?_
      refine X.goto (tgt := 75) dX6_digit_58 (by decide) ?_
      refine X.iret dX6_digit_75 (Or.inl rfl) (Nat.le_of_ble_eq_true rfl) (Nat.le_of_ble_eq_true rfl) ?_
      subst hPR
      exact ⟨hF, _, rfl, 1, a, hTn, by omega⟩
set_option maxHeartbeats 4000000 in
set_option maxRecDepth 100000 in
theorem k_X6_number {Ω : xO} {h : xM} {m : Nat} {n w a : Int} {G : Int → Int} {d : Int} (hS : MoS h m) (hT : TS h m n G w a) (hd : 9 ≤ d ∧ d ≤ 99) : xCt Ω yX6_number cX6_number 3 (some .int) rm_X6_number [rf m, vi d] h (fun q h' => FP h h' m ∧ ∃ r, q = some (vi r) ∧ ∃ w1 a1, TS h' m n G w1 a1 ∧ ((w1 = 0 ∧ a1 = a + 1 ∧ r = G a - 48 ∧ w = 0 ∧ a < n ∧ (49 ≤ G a ∧ G a ≤ 57) ∧ ¬ (a + 1 < n ∧ (48 ≤ G (a + 1) ∧ G (a + 1) ≤ 57) ∧ 10 * (G a - 48) + G (a + 1) - 48 ≤ d)) ∨ (w1 = 0 ∧ a1 = a + 2 ∧ r = 10 * (G a - 48) + G (a + 1) - 48 ∧ w = 0 ∧ a + 1 < n ∧ (49 ≤ G a ∧ G a ≤ 57) ∧ (48 ≤ G (a + 1) ∧ G (a + 1) ≤ 57) ∧ r ≤ d) ∨ (w1 = 1 ∧ a1 = a ∧ r = 0 ∧ ¬ (w = 0 ∧ a < n ∧ 49 ≤ G a ∧ G a ≤ 57)))) xNo := by
  refine xCt_of (ini := false) (by decide +kernel) (Nat.le_of_ble_eq_true rfl) (fun q => absurd q (by decide)) ?_
  generalize hPR : (fun q h' => FP h h' m ∧ ∃ r, q = some (vi r) ∧ ∃ w1 a1, TS h' m n G w1 a1 ∧ ((w1 = 0 ∧ a1 = a + 1 ∧ r = G a - 48 ∧ w = 0 ∧ a < n ∧ (49 ≤ G a ∧ G a ≤ 57) ∧ ¬ (a + 1 < n ∧ (48 ≤ G (a + 1) ∧ G (a + 1) ≤ 57) ∧ 10 * (G a - 48) + G (a + 1) - 48 ≤ d)) ∨ (w1 = 0 ∧ a1 = a + 2 ∧ r = 10 * (G a - 48) + G (a + 1) - 48 ∧ w = 0 ∧ a + 1 < n ∧ (49 ≤ G a ∧ G a ≤ 57) ∧ (48 ≤ G (a + 1) ∧ G (a + 1) ≤ 57) ∧ r ≤ d) ∨ (w1 = 1 ∧ a1 = a ∧ r = 0 ∧ ¬ (w = 0 ∧ a < n ∧ 49 ≤ G a ∧ G a ≤ 57))) : Option xV → xM → Prop) = PR
  have K0 : X Ω RX6 cX6_number 3 (some .int) false rm_X6_number PR xNo 0 0 0 [some (rf m), some (vi d), none] [] h := ?_
  exact K0
  obtain ⟨⟨t5, t6, t7⟩, tw, ta, hT4⟩ := id hT
  refine X.aload_n (i := 0) rfl rfl dX6_number_0 (pc' := 1) rfl ?_
  refine X.aload_n (i := 0) rfl rfl dX6_number_1 (pc' := 2) rfl ?_
  refine X.getI (x := mI h m 7) fk_X6_78 xcl_6 dX6_number_2 (by decide) hS.1 rfl (pc' := 5) rfl (fun r1 => ?_)
  obtain ⟨r1a, r1b⟩ := r1
  refine X.if_ne (tgt := 19) dX6_number_5 ⟨by omega, by omega⟩ (by decide) (pc' := 8) rfl (fun c5 => ?_) (fun c5 => ?_)
  · refine X.iconst dX6_number_19 (pc' := 20) rfl ?_
    refine X.goto (tgt := 24) dX6_number_20 (by decide) ?_
    refine X.putI fk_X6_78 xcl_6 ⟨_, rfl, Or.inl rfl⟩ dX6_number_24 (Or.inr ⟨rfl, by omega⟩) ⟨by omega, by omega⟩ hS.1 (pc' := 27) rfl ?_
    refine X.genH (fun h2 hh2 => ?_)
    have wh2 : ∀ (w0 : Nat) (w1 : Int), mI h2 w0 w1 = if w0 = m ∧ w1 = 7 then 1 else mI h w0 w1 := fun _ _ => by rw [hh2]; rfl
    have S3 : MoS h2 m := by rw [hh2]; exact hS
    have hF1 : FP h h2 m := by rw [hh2]; exact FP.w FP.rf (by omega)
    have hS1 : MoS h2 m := hS.ft hF1.1
    have hTb : TS h2 m n G 1 a := hT.ft hF1.ft (by rw [wh2, if_neg (by omega)]; exact t6) (by rw [wh2, if_pos ⟨rfl, rfl⟩]) (by omega) ⟨by omega, by omega⟩
    have b6 := hTb.1.2.1
    have b7 := hTb.1.2.2
    refine X.aload_n (i := 0) rfl rfl dX6_number_27 (pc' := 28) rfl ?_
    refine X.getI (x := mI h2 m 7) fk_X6_78 xcl_6 dX6_number_28 (by decide) hS1.1 rfl (pc' := 31) rfl (fun r4 => ?_)
    obtain ⟨r4a, r4b⟩ := r4
    refine X.if_eq (tgt := 36) dX6_number_31 ⟨by omega, by omega⟩ (by decide) (pc' := 34) rfl (fun c31 => by exfalso; omega) (fun c31 => ?_)
    refine X.iconst dX6_number_34 (pc' := 35) rfl ?_
    refine X.iret dX6_number_35 (Or.inl rfl) (Nat.le_of_ble_eq_true rfl) (Nat.le_of_ble_eq_true rfl) ?_
    subst hPR
    exact ⟨hF1, _, rfl, 1, a, hTb, by omega⟩
  · refine X.aload_n (i := 0) rfl rfl dX6_number_8 (pc' := 9) rfl ?_
    refine X.bipush (by decide +kernel) dX6_number_9 (pc' := 11) rfl ?_
    refine X.bipush (by decide +kernel) dX6_number_11 (pc' := 13) rfl ?_
    refine X.callV (ci := 6) (a := m) (rm := rm_X6_isNow) (As := [vi 49, vi 57]) (st := [rf m]) dX6_number_13 ck_X6_85 rfl (by decide) hS.1 rfl rfl ⟨Nat.le_of_ble_eq_true rfl, Nat.le_of_ble_eq_true rfl⟩ (Nat.le_of_ble_eq_true rfl) (Nat.le_of_ble_eq_true rfl) (Nat.le_of_ble_eq_true rfl) (pc' := 16) rfl (k_X6_isNow hS hT ⟨by omega, by omega⟩ ⟨by omega, by omega⟩) (fun q5 hq5 eq5 => ?_) (fun _ _ x1 => x1.elim)
    obtain ⟨rfl, r6, rfl, hr6⟩ := eq5
    refine X.if_ne (tgt := 23) dX6_number_16 ⟨by omega, by omega⟩ (by decide) (pc' := 19) rfl (fun c16 => ?_) (fun c16 => ?_)
    · refine X.iconst dX6_number_23 (pc' := 24) rfl ?_
      refine X.putI fk_X6_78 xcl_6 ⟨_, rfl, Or.inl rfl⟩ dX6_number_24 (Or.inr ⟨rfl, by omega⟩) ⟨by omega, by omega⟩ hS.1 (pc' := 27) rfl ?_
      refine X.genH (fun h7 hh7 => ?_)
      have wh7 : ∀ (w0 : Nat) (w1 : Int), mI h7 w0 w1 = if w0 = m ∧ w1 = 7 then 0 else mI h w0 w1 := fun _ _ => by rw [hh7]; rfl
      have S8 : MoS h7 m := by rw [hh7]; exact hS
      have hF1 : FP h h7 m := by rw [hh7]; exact FP.w FP.rf (by omega)
      have hS1 : MoS h7 m := hS.ft hF1.1
      have hTb : TS h7 m n G 0 a := hT.ft hF1.ft (by rw [wh7, if_neg (by omega)]; exact t6) (by rw [wh7, if_pos ⟨rfl, rfl⟩]) (by omega) ⟨by omega, by omega⟩
      have b6 := hTb.1.2.1
      have b7 := hTb.1.2.2
      refine X.aload_n (i := 0) rfl rfl dX6_number_27 (pc' := 28) rfl ?_
      refine X.getI (x := mI h7 m 7) fk_X6_78 xcl_6 dX6_number_28 (by decide) hS1.1 rfl (pc' := 31) rfl (fun r9 => ?_)
      obtain ⟨r9a, r9b⟩ := r9
      refine X.if_eq (tgt := 36) dX6_number_31 ⟨by omega, by omega⟩ (by decide) (pc' := 34) rfl (fun c31 => ?_) (fun c31 => by exfalso; omega)
      refine X.aload_n (i := 0) rfl rfl dX6_number_36 (pc' := 37) rfl ?_
      refine X.getR fk_X6_14 xcl_6 dX6_number_37 hS1.1 hS1.2.2.2.1 (pc' := 40) rfl ?_
      refine X.aload_n (i := 0) rfl rfl dX6_number_40 (pc' := 41) rfl ?_
      refine X.getI (x := mI h7 m 6) fk_X6_82 xcl_6 dX6_number_41 (by decide) hS1.1 rfl (pc' := 44) rfl (fun r10 => ?_)
      obtain ⟨r10a, r10b⟩ := r10
      refine X.cald (x := G a) dX6_number_44 hS1.2.2.2.2.1 (by omega) (by omega) ⟨by omega, by omega⟩ (mI_at (hTb.2.2.2 a (by omega) (by omega)).1 (by omega)) (pc' := 45) rfl (fun r11 => ?_)
      obtain ⟨r11a, r11b⟩ := r11
      have r11c := (hT4 a (by omega) (by omega)).2
      refine X.bipush (by decide +kernel) dX6_number_45 (pc' := 47) rfl ?_
      refine X.isub dX6_number_47 (pc' := 48) rfl ?_
      refine X.gen (fun v1 hv1 => ?_)
      refine X.istore_n (i := 2) (ls' := [some (rf m), some (vi d), some (vi v1)]) (hi := rfl) (hd := dX6_number_48) (by decide) rfl rfl (pc' := 49) rfl ?_
      refine X.aload_n (i := 0) rfl rfl dX6_number_49 (pc' := 50) rfl ?_
      refine X.dup rfl dX6_number_50 (pc' := 51) rfl ?_
      refine X.getI (x := mI h7 m 6) fk_X6_82 xcl_6 dX6_number_51 (by decide) hS1.1 rfl (pc' := 54) rfl (fun r12 => ?_)
      obtain ⟨r12a, r12b⟩ := r12
      refine X.iconst dX6_number_54 (pc' := 55) rfl ?_
      refine X.iadd dX6_number_55 (pc' := 56) rfl ?_
      refine X.putI fk_X6_82 xcl_6 ⟨_, rfl, Or.inl rfl⟩ dX6_number_56 (Or.inl rfl) ⟨by omega, by omega⟩ hS1.1 (pc' := 59) rfl ?_
      refine X.genH (fun h13 hh13 => ?_)
      have wh13 : ∀ (w0 : Nat) (w1 : Int), mI h13 w0 w1 = if w0 = m ∧ w1 = 6 then (mI h7 m 6) + 1 else mI h7 w0 w1 := fun _ _ => by rw [hh13]; rfl
      have S14 : MoS h13 m := by rw [hh13]; exact hS1
      have hF2 : FP h h13 m := by rw [hh13]; exact FP.w hF1 (by omega)
      have hS2 : MoS h13 m := hS.ft hF2.1
      have hTc : TS h13 m n G 0 (a + 1) := hT.ft hF2.ft (by rw [wh13, if_pos ⟨rfl, rfl⟩, b6]) (by rw [wh13, if_neg (by omega)]; exact b7) (by omega) ⟨by omega, by omega⟩
      have c6 := hTc.1.2.1
      have c5 := hTc.1.1
      refine X.aload_n (i := 0) rfl rfl dX6_number_59 (pc' := 60) rfl ?_
      refine X.bipush (by decide +kernel) dX6_number_60 (pc' := 62) rfl ?_
      refine X.bipush (by decide +kernel) dX6_number_62 (pc' := 64) rfl ?_
      refine X.callV (ci := 6) (a := m) (rm := rm_X6_isNow) (As := [vi 48, vi 57]) (st := []) dX6_number_64 ck_X6_85 rfl (by decide) hS2.1 rfl rfl ⟨Nat.le_of_ble_eq_true rfl, Nat.le_of_ble_eq_true rfl⟩ (Nat.le_of_ble_eq_true rfl) (Nat.le_of_ble_eq_true rfl) (Nat.le_of_ble_eq_true rfl) (pc' := 67) rfl (k_X6_isNow hS2 hTc ⟨by omega, by omega⟩ ⟨by omega, by omega⟩) (fun q15 hq15 eq15 => ?_) (fun _ _ x1 => x1.elim)
      obtain ⟨rfl, r16, rfl, hr16⟩ := eq15
      refine X.if_eq (tgt := 119) dX6_number_67 ⟨by omega, by omega⟩ (by decide) (pc' := 70) rfl (fun c67 => ?_) (fun c67 => ?_)
      · refine X.iload_n (i := 2) rfl rfl dX6_number_119 (pc' := 120) rfl ?_
        refine X.iret dX6_number_120 (Or.inl rfl) (Nat.le_of_ble_eq_true rfl) (Nat.le_of_ble_eq_true rfl) ?_
        subst hPR
        exact ⟨hF2, _, rfl, 0, a + 1, hTc, by omega⟩
      · refine X.bipush (by decide +kernel) dX6_number_70 (pc' := 72) rfl ?_
        refine X.iload_n (i := 2) rfl rfl dX6_number_72 (pc' := 73) rfl ?_
        refine X.imul dX6_number_73 (pc' := 74) rfl ?_
        refine X.aload_n (i := 0) rfl rfl dX6_number_74 (pc' := 75) rfl ?_
        refine X.getR fk_X6_14 xcl_6 dX6_number_75 hS2.1 hS2.2.2.2.1 (pc' := 78) rfl ?_
        refine X.aload_n (i := 0) rfl rfl dX6_number_78 (pc' := 79) rfl ?_
        refine X.getI (x := mI h13 m 6) fk_X6_82 xcl_6 dX6_number_79 (by decide) hS2.1 rfl (pc' := 82) rfl (fun r17 => ?_)
        obtain ⟨r17a, r17b⟩ := r17
        refine X.cald (x := G (a + 1)) dX6_number_82 hS2.2.2.2.2.1 (by omega) (by omega) ⟨by omega, by omega⟩ (mI_at (hTc.2.2.2 (a + 1) (by omega) (by omega)).1 (by omega)) (pc' := 83) rfl (fun r18 => ?_)
        obtain ⟨r18a, r18b⟩ := r18
        have r18c := (hT4 (a + 1) (by omega) (by omega)).2
        refine X.iadd dX6_number_83 (pc' := 84) rfl ?_
        refine X.bipush (by decide +kernel) dX6_number_84 (pc' := 86) rfl ?_
        refine X.isub dX6_number_86 (pc' := 87) rfl ?_
        refine X.iload_n (i := 1) rfl rfl dX6_number_87 (pc' := 88) rfl ?_
        refine X.icmp_gt (tgt := 119) dX6_number_88 ⟨by omega, by omega⟩ ⟨by omega, by omega⟩ (by decide) (pc' := 91) rfl (fun c88 => ?_) (fun c88 => ?_)
        · refine X.iload_n (i := 2) rfl rfl dX6_number_119 (pc' := 120) rfl ?_
          refine X.iret dX6_number_120 (Or.inl rfl) (Nat.le_of_ble_eq_true rfl) (Nat.le_of_ble_eq_true rfl) ?_
          subst hPR
          exact ⟨hF2, _, rfl, 0, a + 1, hTc, by omega⟩
        · refine X.bipush (by decide +kernel) dX6_number_91 (pc' := 93) rfl ?_
          refine X.iload_n (i := 2) rfl rfl dX6_number_93 (pc' := 94) rfl ?_
          refine X.imul dX6_number_94 (pc' := 95) rfl ?_
          refine X.aload_n (i := 0) rfl rfl dX6_number_95 (pc' := 96) rfl ?_
          refine X.getR fk_X6_14 xcl_6 dX6_number_96 hS2.1 hS2.2.2.2.1 (pc' := 99) rfl ?_
          refine X.aload_n (i := 0) rfl rfl dX6_number_99 (pc' := 100) rfl ?_
          refine X.getI (x := mI h13 m 6) fk_X6_82 xcl_6 dX6_number_100 (by decide) hS2.1 rfl (pc' := 103) rfl (fun r19 => ?_)
          obtain ⟨r19a, r19b⟩ := r19
          refine X.cald (x := G (a + 1)) dX6_number_103 hS2.2.2.2.2.1 (by omega) (by omega) ⟨by omega, by omega⟩ (mI_at (hTc.2.2.2 (a + 1) (by omega) (by omega)).1 (by omega)) (pc' := 104) rfl (fun r20 => ?_)
          obtain ⟨r20a, r20b⟩ := r20
          have r20c := (hT4 (a + 1) (by omega) (by omega)).2
          refine X.iadd dX6_number_104 (pc' := 105) rfl ?_
          refine X.bipush (by decide +kernel) dX6_number_105 (pc' := 107) rfl ?_
          refine X.isub dX6_number_107 (pc' := 108) rfl ?_
          refine X.gen (fun v2 hv2 => ?_)
          refine X.istore_n (i := 2) (ls' := [some (rf m), some (vi d), some (vi v2)]) (hi := rfl) (hd := dX6_number_108) (by decide) rfl rfl (pc' := 109) rfl ?_
          refine X.aload_n (i := 0) rfl rfl dX6_number_109 (pc' := 110) rfl ?_
          refine X.dup rfl dX6_number_110 (pc' := 111) rfl ?_
          refine X.getI (x := mI h13 m 6) fk_X6_82 xcl_6 dX6_number_111 (by decide) hS2.1 rfl (pc' := 114) rfl (fun r21 => ?_)
          obtain ⟨r21a, r21b⟩ := r21
          refine X.iconst dX6_number_114 (pc' := 115) rfl ?_
          refine X.iadd dX6_number_115 (pc' := 116) rfl ?_
          refine X.putI fk_X6_82 xcl_6 ⟨_, rfl, Or.inl rfl⟩ dX6_number_116 (Or.inl rfl) ⟨by omega, by omega⟩ hS2.1 (pc' := 119) rfl ?_
          refine X.genH (fun h22 hh22 => ?_)
          have wh22 : ∀ (w0 : Nat) (w1 : Int), mI h22 w0 w1 = if w0 = m ∧ w1 = 6 then (mI h13 m 6) + 1 else mI h13 w0 w1 := fun _ _ => by rw [hh22]; rfl
          have S23 : MoS h22 m := by rw [hh22]; exact hS2
          refine X.iload_n (i := 2) rfl rfl dX6_number_119 (pc' := 120) rfl ?_
          refine X.iret dX6_number_120 (Or.inl rfl) (Nat.le_of_ble_eq_true rfl) (Nat.le_of_ble_eq_true rfl) ?_
          subst hPR
          have hF3 : FP h h22 m := by rw [hh22]; exact FP.w hF2 (by omega)
          have c7 := hTc.1.2.2
          exact ⟨hF3, _, rfl, 0, a + 2, hT.ft hF3.ft (by rw [wh22, if_pos ⟨rfl, rfl⟩, c6]; omega) (by rw [wh22, if_neg (by omega)]; exact c7) (by omega) ⟨by omega, by omega⟩, by omega⟩
    · refine X.iconst dX6_number_19 (pc' := 20) rfl ?_
      refine X.goto (tgt := 24) dX6_number_20 (by decide) ?_
      refine X.putI fk_X6_78 xcl_6 ⟨_, rfl, Or.inl rfl⟩ dX6_number_24 (Or.inr ⟨rfl, by omega⟩) ⟨by omega, by omega⟩ hS.1 (pc' := 27) rfl ?_
      refine X.genH (fun h24 hh24 => ?_)
      have wh24 : ∀ (w0 : Nat) (w1 : Int), mI h24 w0 w1 = if w0 = m ∧ w1 = 7 then 1 else mI h w0 w1 := fun _ _ => by rw [hh24]; rfl
      have S25 : MoS h24 m := by rw [hh24]; exact hS
      have hF1 : FP h h24 m := by rw [hh24]; exact FP.w FP.rf (by omega)
      have hS1 : MoS h24 m := hS.ft hF1.1
      have hTb : TS h24 m n G 1 a := hT.ft hF1.ft (by rw [wh24, if_neg (by omega)]; exact t6) (by rw [wh24, if_pos ⟨rfl, rfl⟩]) (by omega) ⟨by omega, by omega⟩
      have b6 := hTb.1.2.1
      have b7 := hTb.1.2.2
      refine X.aload_n (i := 0) rfl rfl dX6_number_27 (pc' := 28) rfl ?_
      refine X.getI (x := mI h24 m 7) fk_X6_78 xcl_6 dX6_number_28 (by decide) hS1.1 rfl (pc' := 31) rfl (fun r26 => ?_)
      obtain ⟨r26a, r26b⟩ := r26
      refine X.if_eq (tgt := 36) dX6_number_31 ⟨by omega, by omega⟩ (by decide) (pc' := 34) rfl (fun c31 => by exfalso; omega) (fun c31 => ?_)
      refine X.iconst dX6_number_34 (pc' := 35) rfl ?_
      refine X.iret dX6_number_35 (Or.inl rfl) (Nat.le_of_ble_eq_true rfl) (Nat.le_of_ble_eq_true rfl) ?_
      subst hPR
      exact ⟨hF1, _, rfl, 1, a, hTb, by omega⟩
