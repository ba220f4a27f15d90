/-! ===== looks of the model: sums, messages ===== -/
theorem msg_how {A : aS} (hA : aOK A) {k s : Int} (hk : 0 ≤ k ∧ k < 60) : (how A (k / 10) (k % 10) s = -1 ∧ msg A k = 0) ∨ (how A (k / 10) (k % 10) s ≠ -1 ∧ 0 < msg A k) := by
  have h1 := msg_all hA (k / 10) (k % 10) s (by omega) (by omega)
  rw [show k / 10 * 10 + k % 10 = k by omega] at h1
  have h2 := hwF_rng A (k / 10) (k % 10) s (aW A).toNat
  by_cases e : (hwF A (k / 10) (k % 10) s (aW A).toNat).1 = 0
  · exact Or.inl ⟨by unfold how; rw [if_pos e], by omega⟩
  · refine Or.inr ⟨?_, by omega⟩
    unfold how
    rw [if_neg e]
    split <;> (try split) <;> (try split) <;> omega
theorem allH_at {A : aS} {f m t : Int} (H : allH A f m) (h0 : 0 ≤ t) (h6 : t < 6) : how A f m t = 3 := by
  obtain ⟨a0, a1, a2, a3, a4, a5⟩ := H
  rcases (show t = 0 ∨ t = 1 ∨ t = 2 ∨ t = 3 ∨ t = 4 ∨ t = 5 by omega) with rfl | rfl | rfl | rfl | rfl | rfl <;> assumption
theorem allH_of {A : aS} {f m t : Int} (h6 : 6 ≤ t) (H : ∀ q, 0 ≤ q → q < t → how A f m q = 3) : allH A f m := ⟨H 0 (by omega) (by omega), H 1 (by omega) (by omega), H 2 (by omega) (by omega), H 3 (by omega) (by omega), H 4 (by omega) (by omega), H 5 (by omega) (by omega)⟩
def smF (g : Int → Int) : Nat → Int
  | 0 => 0
  | n + 1 => smF g n + g n
theorem smF_at {g : Int → Int} {k : Int} (h0 : 0 ≤ k) : smF g (k + 1).toNat = smF g k.toNat + g k := by
  have e : ((k.toNat : Nat) : Int) = k := by omega
  rw [show (k + 1).toNat = k.toNat + 1 by omega, show smF g (k.toNat + 1) = smF g k.toNat + g (k.toNat : Nat) from rfl, e]
theorem smF_sh (A : aS) : smF (hBt A) 6 = shN A := by
  show 0 + hBt A 0 + hBt A 1 + hBt A 2 + hBt A 3 + hBt A 4 + hBt A 5 = hBt A 0 + hBt A 1 + hBt A 2 + hBt A 3 + hBt A 4 + hBt A 5
  omega
theorem smF_rng {g : Int → Int} {B : Int} (hg : ∀ k, 0 ≤ g k ∧ g k ≤ B) : ∀ n : Nat, 0 ≤ smF g n ∧ smF g n ≤ n * B
  | 0 => ⟨Int.le_refl _, by show (0 : Int) ≤ ((0 : Nat) : Int) * B; simp⟩
  | n + 1 => by
    have h1 := smF_rng hg n
    have h2 := hg n
    have h3 : ((n + 1 : Nat) : Int) * B = n * B + B := by
      rw [Int.natCast_add, Int.add_mul]
      simp
    show 0 ≤ smF g n + g n ∧ smF g n + g n ≤ _
    rw [h3]
    omega
theorem shN_rng {A : aS} (hA : aOK A) : 0 ≤ shN A ∧ shN A ≤ 6 * aB A := by
  have h0 := hBt_rng hA 0
  have h1 := hBt_rng hA 1
  have h2 := hBt_rng hA 2
  have h3 := hBt_rng hA 3
  have h4 := hBt_rng hA 4
  have h5 := hBt_rng hA 5
  unfold shN
  omega
theorem bsF_in {A : aS} {k : Int} (h0 : 0 ≤ k) (h : (bsR A k 6).1 > (bsF A k.toNat).2.1 ∨ ((bsR A k 6).1 = (bsF A k.toNat).2.1 ∧ (bsR A k 6).2 < (bsF A k.toNat).2.2)) : (bsF A (k + 1).toNat).1 = k ∧ (bsF A (k + 1).toNat).2.1 = (bsR A k 6).1 ∧ (bsF A (k + 1).toNat).2.2 = (bsR A k 6).2 := by
  rw [bsF_at h0, if_pos h]
  exact ⟨rfl, rfl, rfl⟩
theorem bsF_out {A : aS} {k : Int} (h0 : 0 ≤ k) (h : ¬ ((bsR A k 6).1 > (bsF A k.toNat).2.1 ∨ ((bsR A k 6).1 = (bsF A k.toNat).2.1 ∧ (bsR A k 6).2 < (bsF A k.toNat).2.2))) : bsF A (k + 1).toNat = bsF A k.toNat := by
  rw [bsF_at h0, if_neg h]
set_option maxHeartbeats 4000000 in
set_option maxRecDepth 100000 in
theorem k_X6_gaps {Ω : xO} {h : xM} {m : Nat} {A : aS} {s : Int} (hS : MoS h m) (hM : RM h (m + 1) 0 A) (hA : aOK A) (hs : 0 ≤ s ∧ s < 6) : xCt Ω yX6_gaps cX6_gaps 7 (some .int) rm_X6_gaps [rf m, vi s] h (fun q h' => h = h' ∧ ∃ r, q = some (vi r) ∧ r = gap A s) xNo := by
  refine xCt_of (ini := false) (by decide +kernel) (Nat.le_of_ble_eq_true rfl) (fun q => absurd q (by decide)) ?_
  generalize hPR : (fun q h' => h = h' ∧ ∃ r, q = some (vi r) ∧ r = gap A s : Option xV → xM → Prop) = PR
  have K0 : X Ω RX6 cX6_gaps 7 (some .int) false rm_X6_gaps PR xNo 0 0 0 [some (rf m), some (vi s), none, none, none, none, none] [] h := ?_
  exact K0
  obtain ⟨mSt, mB, mW, mWl, mWo, mCo, mHe⟩ := id hM
  obtain ⟨okB, okN, okWl, okS, okW, okM, okC, okH⟩ := id hA
  refine X.iconst dX6_gaps_0 (pc' := 1) rfl ?_
  refine X.istore_n (i := 2) (ls' := [some (rf m), some (vi s), some (vi 0), none, none, none, none]) (hi := rfl) (hd := dX6_gaps_1) (by decide) rfl rfl (pc' := 2) rfl ?_
  refine X.iconst dX6_gaps_2 (pc' := 3) rfl ?_
  refine X.istore_n (i := 3) (ls' := [some (rf m), some (vi s), some (vi 0), some (vi 0), none, none, none]) (hi := rfl) (hd := dX6_gaps_3) (by decide) rfl rfl (pc' := 4) rfl ?_
  refine X.iconst dX6_gaps_4 (pc' := 5) rfl ?_
  refine X.istore (i := 4) (ls' := [some (rf m), some (vi s), some (vi 0), some (vi 0), some (vi 0), none, none]) (hd := dX6_gaps_5) (by decide) rfl rfl (pc' := 7) rfl ?_
  refine X.iconst dX6_gaps_7 (pc' := 8) rfl ?_
  refine X.istore (i := 5) (ls' := [some (rf m), some (vi s), some (vi 0), some (vi 0), some (vi 0), some (vi 0), none]) (hd := dX6_gaps_8) (by decide) rfl rfl (pc' := 10) rfl ?_
  have L10 : ∀ (n10 : Nat) (c : Int) (e : Int) (q : Int) (k : Int), (aB A - k).toNat < n10 → (0 ≤ k ∧ k ≤ aB A ∧ c = (gpF (aHe A s) k.toNat).1 ∧ e = (gpF (aHe A s) k.toNat).2.1 ∧ q = (gpF (aHe A s) k.toNat).2.2 ∧ (e = 0 ∨ e = 1) ∧ (q = 0 ∨ q = 1)) → X Ω RX6 cX6_gaps 7 (some .int) false rm_X6_gaps PR xNo 0 0 10 [some (rf m), some (vi s), some (vi c), some (vi e), some (vi q), some (vi k), none] [] h := by
    intro n10
    induction n10 with
    | zero => intro c e q k hm _; exfalso; omega
    | succ n10 ih10 =>
      intro c e q k hm10 hinv
      obtain ⟨hk0, hkn, hc, he, hq, he2, hq2⟩ := hinv
      have hgr := (gpF_rng (aHe A s) k.toNat).1
      refine X.iload (i := 5) rfl dX6_gaps_10 (pc' := 12) rfl ?_
      refine X.aload_n (i := 0) rfl rfl dX6_gaps_12 (pc' := 13) rfl ?_
      refine X.getR fk_X6_8 xcl_6 dX6_gaps_13 hS.1 hS.2.1 (pc' := 16) rfl ?_
      refine X.iconst dX6_gaps_16 (pc' := 17) rfl ?_
      refine X.iald (x := aB A) dX6_gaps_17 hS.2.2.1 (by omega) (by omega) ⟨by omega, by omega⟩ (mI_at mB (by omega)) (pc' := 18) rfl (fun r1 => ?_)
      obtain ⟨r1a, r1b⟩ := r1
      refine X.icmp_ge (tgt := 93) dX6_gaps_18 ⟨by omega, by omega⟩ ⟨by omega, by omega⟩ (by decide) (pc' := 21) rfl (fun c18 => ?_) (fun c18 => ?_)
      · refine X.iload_n (i := 2) rfl rfl dX6_gaps_93 (pc' := 94) rfl ?_
        refine X.iret dX6_gaps_94 (Or.inl rfl) (Nat.le_of_ble_eq_true rfl) (Nat.le_of_ble_eq_true rfl) ?_
        subst hPR
        have e : k = aB A := by omega
        subst e
        exact ⟨rfl, _, rfl, hc⟩
      · refine X.aload_n (i := 0) rfl rfl dX6_gaps_21 (pc' := 22) rfl ?_
        refine X.iload_n (i := 1) rfl rfl dX6_gaps_22 (pc' := 23) rfl ?_
        refine X.iload (i := 5) rfl dX6_gaps_23 (pc' := 25) rfl ?_
        refine X.callV (ci := 6) (a := m) (rm := rm_X6_heardAt) (As := [vi s, vi k]) (st := []) dX6_gaps_25 ck_X6_135 rfl (by decide) hS.1 rfl rfl ⟨Nat.le_of_ble_eq_true rfl, Nat.le_of_ble_eq_true rfl⟩ (Nat.le_of_ble_eq_true rfl) (Nat.le_of_ble_eq_true rfl) (Nat.le_of_ble_eq_true rfl) (pc' := 28) rfl (k_X6_heardAt hS hM hA hs ⟨by omega, by omega⟩) (fun q2 hq2 eq2 => ?_) (fun _ _ x1 => x1.elim)
        obtain ⟨rfl, x, rfl, hx⟩ := eq2
        have hx2 : x = aHe A s k := by rw [hx, if_pos (by omega)]
        have okk := okH s k (by omega) (by omega) (by omega) (by omega)
        refine X.if_lt (tgt := 35) dX6_gaps_28 ⟨by omega, by omega⟩ (by decide) (pc' := 31) rfl (fun c28 => ?_) (fun c28 => ?_)
        · refine X.iconst dX6_gaps_35 (pc' := 36) rfl ?_
          refine X.istore (i := 6) (ls' := [some (rf m), some (vi s), some (vi c), some (vi e), some (vi q), some (vi k), some (vi 0)]) (hd := dX6_gaps_36) (by decide) rfl rfl (pc' := 38) rfl ?_
          refine X.iload_n (i := 2) rfl rfl dX6_gaps_38 (pc' := 39) rfl ?_
          refine X.iload (i := 6) rfl dX6_gaps_39 (pc' := 41) rfl ?_
          refine X.if_eq (tgt := 57) dX6_gaps_41 ⟨by omega, by omega⟩ (by decide) (pc' := 44) rfl (fun c41 => ?_) (fun c41 => by exfalso; omega)
          refine X.iconst dX6_gaps_57 (pc' := 58) rfl ?_
          refine X.iadd dX6_gaps_58 (pc' := 59) rfl ?_
          refine X.gen (fun x3 hx3 => ?_)
          refine X.istore_n (i := 2) (ls' := [some (rf m), some (vi s), some (vi x3), some (vi e), some (vi q), some (vi k), some (vi 0)]) (hi := rfl) (hd := dX6_gaps_59) (by decide) rfl rfl (pc' := 60) rfl ?_
          refine X.iload_n (i := 3) rfl rfl dX6_gaps_60 (pc' := 61) rfl ?_
          refine X.if_ne (tgt := 69) dX6_gaps_61 ⟨by omega, by omega⟩ (by decide) (pc' := 64) rfl (fun c61 => ?_) (fun c61 => ?_)
          · refine X.iconst dX6_gaps_69 (pc' := 70) rfl ?_
            refine X.goto (tgt := 74) dX6_gaps_70 (by decide) ?_
            refine X.istore_n (i := 3) (ls' := [some (rf m), some (vi s), some (vi x3), some (vi 1), some (vi q), some (vi k), some (vi 0)]) (hi := rfl) (hd := dX6_gaps_74) (by decide) rfl rfl (pc' := 75) rfl ?_
            refine X.iload (i := 6) rfl dX6_gaps_75 (pc' := 77) rfl ?_
            refine X.if_ne (tgt := 84) dX6_gaps_77 ⟨by omega, by omega⟩ (by decide) (pc' := 80) rfl (fun c77 => by exfalso; omega) (fun c77 => ?_)
            refine X.iconst dX6_gaps_80 (pc' := 81) rfl ?_
            refine X.goto (tgt := 85) dX6_gaps_81 (by decide) ?_
            refine X.istore (i := 4) (ls' := [some (rf m), some (vi s), some (vi x3), some (vi 1), some (vi 1), some (vi k), some (vi 0)]) (hd := dX6_gaps_85) (by decide) rfl rfl (pc' := 87) rfl ?_
            refine X.iinc (i := 5) (ls' := [some (rf m), some (vi s), some (vi x3), some (vi 1), some (vi 1), some (vi (k + 1)), some (vi 0)]) dX6_gaps_87 rfl (by decide) rfl rfl (pc' := 90) rfl ?_
            refine X.goto (tgt := 10) dX6_gaps_90 (by decide) ?_
            refine X.mask (bs := [true, true, true, true, true, true, false]) (ls' := [some (rf m), some (vi s), some (vi x3), some (vi 1), some (vi 1), some (vi (k + 1)), none]) rfl ?_
            refine ih10 x3 1 1 (k + 1) (by omega) ?_
            have g1 := gpF_no (g := aHe A s) hk0 (by omega)
            exact ⟨by omega, by omega, by omega, by omega, by omega, by omega, by omega⟩
          · refine X.iload (i := 6) rfl dX6_gaps_64 (pc' := 66) rfl ?_
            refine X.if_eq (tgt := 73) dX6_gaps_66 ⟨by omega, by omega⟩ (by decide) (pc' := 69) rfl (fun c66 => ?_) (fun c66 => by exfalso; omega)
            refine X.iconst dX6_gaps_73 (pc' := 74) rfl ?_
            refine X.istore_n (i := 3) (ls' := [some (rf m), some (vi s), some (vi x3), some (vi 0), some (vi q), some (vi k), some (vi 0)]) (hi := rfl) (hd := dX6_gaps_74) (by decide) rfl rfl (pc' := 75) rfl ?_
            refine X.iload (i := 6) rfl dX6_gaps_75 (pc' := 77) rfl ?_
            refine X.if_ne (tgt := 84) dX6_gaps_77 ⟨by omega, by omega⟩ (by decide) (pc' := 80) rfl (fun c77 => by exfalso; omega) (fun c77 => ?_)
            refine X.iconst dX6_gaps_80 (pc' := 81) rfl ?_
            refine X.goto (tgt := 85) dX6_gaps_81 (by decide) ?_
            refine X.istore (i := 4) (ls' := [some (rf m), some (vi s), some (vi x3), some (vi 0), some (vi 1), some (vi k), some (vi 0)]) (hd := dX6_gaps_85) (by decide) rfl rfl (pc' := 87) rfl ?_
            refine X.iinc (i := 5) (ls' := [some (rf m), some (vi s), some (vi x3), some (vi 0), some (vi 1), some (vi (k + 1)), some (vi 0)]) dX6_gaps_87 rfl (by decide) rfl rfl (pc' := 90) rfl ?_
            refine X.goto (tgt := 10) dX6_gaps_90 (by decide) ?_
            refine X.mask (bs := [true, true, true, true, true, true, false]) (ls' := [some (rf m), some (vi s), some (vi x3), some (vi 0), some (vi 1), some (vi (k + 1)), none]) rfl ?_
            refine ih10 x3 0 1 (k + 1) (by omega) ?_
            have g1 := gpF_no (g := aHe A s) hk0 (by omega)
            exact ⟨by omega, by omega, by omega, by omega, by omega, by omega, by omega⟩
        · refine X.iconst dX6_gaps_31 (pc' := 32) rfl ?_
          refine X.goto (tgt := 36) dX6_gaps_32 (by decide) ?_
          refine X.istore (i := 6) (ls' := [some (rf m), some (vi s), some (vi c), some (vi e), some (vi q), some (vi k), some (vi 1)]) (hd := dX6_gaps_36) (by decide) rfl rfl (pc' := 38) rfl ?_
          refine X.iload_n (i := 2) rfl rfl dX6_gaps_38 (pc' := 39) rfl ?_
          refine X.iload (i := 6) rfl dX6_gaps_39 (pc' := 41) rfl ?_
          refine X.if_eq (tgt := 57) dX6_gaps_41 ⟨by omega, by omega⟩ (by decide) (pc' := 44) rfl (fun c41 => by exfalso; omega) (fun c41 => ?_)
          refine X.iload_n (i := 3) rfl rfl dX6_gaps_44 (pc' := 45) rfl ?_
          refine X.if_eq (tgt := 57) dX6_gaps_45 ⟨by omega, by omega⟩ (by decide) (pc' := 48) rfl (fun c45 => ?_) (fun c45 => ?_)
          · refine X.iconst dX6_gaps_57 (pc' := 58) rfl ?_
            refine X.iadd dX6_gaps_58 (pc' := 59) rfl ?_
            refine X.gen (fun x4 hx4 => ?_)
            refine X.istore_n (i := 2) (ls' := [some (rf m), some (vi s), some (vi x4), some (vi e), some (vi q), some (vi k), some (vi 1)]) (hi := rfl) (hd := dX6_gaps_59) (by decide) rfl rfl (pc' := 60) rfl ?_
            refine X.iload_n (i := 3) rfl rfl dX6_gaps_60 (pc' := 61) rfl ?_
            refine X.if_ne (tgt := 69) dX6_gaps_61 ⟨by omega, by omega⟩ (by decide) (pc' := 64) rfl (fun c61 => ?_) (fun c61 => ?_)
            · refine X.iconst dX6_gaps_69 (pc' := 70) rfl ?_
              refine X.goto (tgt := 74) dX6_gaps_70 (by decide) ?_
              refine X.istore_n (i := 3) (ls' := [some (rf m), some (vi s), some (vi x4), some (vi 1), some (vi q), some (vi k), some (vi 1)]) (hi := rfl) (hd := dX6_gaps_74) (by decide) rfl rfl (pc' := 75) rfl ?_
              refine X.iload (i := 6) rfl dX6_gaps_75 (pc' := 77) rfl ?_
              refine X.if_ne (tgt := 84) dX6_gaps_77 ⟨by omega, by omega⟩ (by decide) (pc' := 80) rfl (fun c77 => ?_) (fun c77 => by exfalso; omega)
              refine X.iconst dX6_gaps_84 (pc' := 85) rfl ?_
              refine X.istore (i := 4) (ls' := [some (rf m), some (vi s), some (vi x4), some (vi 1), some (vi 0), some (vi k), some (vi 1)]) (hd := dX6_gaps_85) (by decide) rfl rfl (pc' := 87) rfl ?_
              refine X.iinc (i := 5) (ls' := [some (rf m), some (vi s), some (vi x4), some (vi 1), some (vi 0), some (vi (k + 1)), some (vi 1)]) dX6_gaps_87 rfl (by decide) rfl rfl (pc' := 90) rfl ?_
              refine X.goto (tgt := 10) dX6_gaps_90 (by decide) ?_
              refine X.mask (bs := [true, true, true, true, true, true, false]) (ls' := [some (rf m), some (vi s), some (vi x4), some (vi 1), some (vi 0), some (vi (k + 1)), none]) rfl ?_
              refine ih10 x4 1 0 (k + 1) (by omega) ?_
              have g1 := gpF_in (g := aHe A s) hk0 (by omega)
              rw [if_neg (by omega)] at g1
              exact ⟨by omega, by omega, by omega, by omega, by omega, by omega, by omega⟩
            · refine X.iload (i := 6) rfl dX6_gaps_64 (pc' := 66) rfl ?_
              refine X.if_eq (tgt := 73) dX6_gaps_66 ⟨by omega, by omega⟩ (by decide) (pc' := 69) rfl (fun c66 => by exfalso; omega) (fun c66 => ?_)
              refine X.iconst dX6_gaps_69 (pc' := 70) rfl ?_
              refine X.goto (tgt := 74) dX6_gaps_70 (by decide) ?_
              refine X.istore_n (i := 3) (ls' := [some (rf m), some (vi s), some (vi x4), some (vi 1), some (vi q), some (vi k), some (vi 1)]) (hi := rfl) (hd := dX6_gaps_74) (by decide) rfl rfl (pc' := 75) rfl ?_
              refine X.iload (i := 6) rfl dX6_gaps_75 (pc' := 77) rfl ?_
              refine X.if_ne (tgt := 84) dX6_gaps_77 ⟨by omega, by omega⟩ (by decide) (pc' := 80) rfl (fun c77 => ?_) (fun c77 => by exfalso; omega)
              refine X.iconst dX6_gaps_84 (pc' := 85) rfl ?_
              refine X.istore (i := 4) (ls' := [some (rf m), some (vi s), some (vi x4), some (vi 1), some (vi 0), some (vi k), some (vi 1)]) (hd := dX6_gaps_85) (by decide) rfl rfl (pc' := 87) rfl ?_
              refine X.iinc (i := 5) (ls' := [some (rf m), some (vi s), some (vi x4), some (vi 1), some (vi 0), some (vi (k + 1)), some (vi 1)]) dX6_gaps_87 rfl (by decide) rfl rfl (pc' := 90) rfl ?_
              refine X.goto (tgt := 10) dX6_gaps_90 (by decide) ?_
              refine X.mask (bs := [true, true, true, true, true, true, false]) (ls' := [some (rf m), some (vi s), some (vi x4), some (vi 1), some (vi 0), some (vi (k + 1)), none]) rfl ?_
              refine ih10 x4 1 0 (k + 1) (by omega) ?_
              have g1 := gpF_in (g := aHe A s) hk0 (by omega)
              rw [if_neg (by omega)] at g1
              exact ⟨by omega, by omega, by omega, by omega, by omega, by omega, by omega⟩
          · refine X.iload (i := 4) rfl dX6_gaps_48 (pc' := 50) rfl ?_
            refine X.if_eq (tgt := 57) dX6_gaps_50 ⟨by omega, by omega⟩ (by decide) (pc' := 53) rfl (fun c50 => ?_) (fun c50 => ?_)
            · refine X.iconst dX6_gaps_57 (pc' := 58) rfl ?_
              refine X.iadd dX6_gaps_58 (pc' := 59) rfl ?_
              refine X.gen (fun x5 hx5 => ?_)
              refine X.istore_n (i := 2) (ls' := [some (rf m), some (vi s), some (vi x5), some (vi e), some (vi q), some (vi k), some (vi 1)]) (hi := rfl) (hd := dX6_gaps_59) (by decide) rfl rfl (pc' := 60) rfl ?_
              refine X.iload_n (i := 3) rfl rfl dX6_gaps_60 (pc' := 61) rfl ?_
              refine X.if_ne (tgt := 69) dX6_gaps_61 ⟨by omega, by omega⟩ (by decide) (pc' := 64) rfl (fun c61 => ?_) (fun c61 => ?_)
              · refine X.iconst dX6_gaps_69 (pc' := 70) rfl ?_
                refine X.goto (tgt := 74) dX6_gaps_70 (by decide) ?_
                refine X.istore_n (i := 3) (ls' := [some (rf m), some (vi s), some (vi x5), some (vi 1), some (vi q), some (vi k), some (vi 1)]) (hi := rfl) (hd := dX6_gaps_74) (by decide) rfl rfl (pc' := 75) rfl ?_
                refine X.iload (i := 6) rfl dX6_gaps_75 (pc' := 77) rfl ?_
                refine X.if_ne (tgt := 84) dX6_gaps_77 ⟨by omega, by omega⟩ (by decide) (pc' := 80) rfl (fun c77 => ?_) (fun c77 => by exfalso; omega)
                refine X.iconst dX6_gaps_84 (pc' := 85) rfl ?_
                refine X.istore (i := 4) (ls' := [some (rf m), some (vi s), some (vi x5), some (vi 1), some (vi 0), some (vi k), some (vi 1)]) (hd := dX6_gaps_85) (by decide) rfl rfl (pc' := 87) rfl ?_
                refine X.iinc (i := 5) (ls' := [some (rf m), some (vi s), some (vi x5), some (vi 1), some (vi 0), some (vi (k + 1)), some (vi 1)]) dX6_gaps_87 rfl (by decide) rfl rfl (pc' := 90) rfl ?_
                refine X.goto (tgt := 10) dX6_gaps_90 (by decide) ?_
                refine X.mask (bs := [true, true, true, true, true, true, false]) (ls' := [some (rf m), some (vi s), some (vi x5), some (vi 1), some (vi 0), some (vi (k + 1)), none]) rfl ?_
                refine ih10 x5 1 0 (k + 1) (by omega) ?_
                have g1 := gpF_in (g := aHe A s) hk0 (by omega)
                rw [if_neg (by omega)] at g1
                exact ⟨by omega, by omega, by omega, by omega, by omega, by omega, by omega⟩
              · refine X.iload (i := 6) rfl dX6_gaps_64 (pc' := 66) rfl ?_
                refine X.if_eq (tgt := 73) dX6_gaps_66 ⟨by omega, by omega⟩ (by decide) (pc' := 69) rfl (fun c66 => by exfalso; omega) (fun c66 => ?_)
                refine X.iconst dX6_gaps_69 (pc' := 70) rfl ?_
                refine X.goto (tgt := 74) dX6_gaps_70 (by decide) ?_
                refine X.istore_n (i := 3) (ls' := [some (rf m), some (vi s), some (vi x5), some (vi 1), some (vi q), some (vi k), some (vi 1)]) (hi := rfl) (hd := dX6_gaps_74) (by decide) rfl rfl (pc' := 75) rfl ?_
                refine X.iload (i := 6) rfl dX6_gaps_75 (pc' := 77) rfl ?_
                refine X.if_ne (tgt := 84) dX6_gaps_77 ⟨by omega, by omega⟩ (by decide) (pc' := 80) rfl (fun c77 => ?_) (fun c77 => by exfalso; omega)
                refine X.iconst dX6_gaps_84 (pc' := 85) rfl ?_
                refine X.istore (i := 4) (ls' := [some (rf m), some (vi s), some (vi x5), some (vi 1), some (vi 0), some (vi k), some (vi 1)]) (hd := dX6_gaps_85) (by decide) rfl rfl (pc' := 87) rfl ?_
                refine X.iinc (i := 5) (ls' := [some (rf m), some (vi s), some (vi x5), some (vi 1), some (vi 0), some (vi (k + 1)), some (vi 1)]) dX6_gaps_87 rfl (by decide) rfl rfl (pc' := 90) rfl ?_
                refine X.goto (tgt := 10) dX6_gaps_90 (by decide) ?_
                refine X.mask (bs := [true, true, true, true, true, true, false]) (ls' := [some (rf m), some (vi s), some (vi x5), some (vi 1), some (vi 0), some (vi (k + 1)), none]) rfl ?_
                refine ih10 x5 1 0 (k + 1) (by omega) ?_
                have g1 := gpF_in (g := aHe A s) hk0 (by omega)
                rw [if_neg (by omega)] at g1
                exact ⟨by omega, by omega, by omega, by omega, by omega, by omega, by omega⟩
            · refine X.iconst dX6_gaps_53 (pc' := 54) rfl ?_
              refine X.goto (tgt := 58) dX6_gaps_54 (by decide) ?_
              refine X.iadd dX6_gaps_58 (pc' := 59) rfl ?_
              refine X.gen (fun x6 hx6 => ?_)
              refine X.istore_n (i := 2) (ls' := [some (rf m), some (vi s), some (vi x6), some (vi e), some (vi q), some (vi k), some (vi 1)]) (hi := rfl) (hd := dX6_gaps_59) (by decide) rfl rfl (pc' := 60) rfl ?_
              refine X.iload_n (i := 3) rfl rfl dX6_gaps_60 (pc' := 61) rfl ?_
              refine X.if_ne (tgt := 69) dX6_gaps_61 ⟨by omega, by omega⟩ (by decide) (pc' := 64) rfl (fun c61 => ?_) (fun c61 => ?_)
              · refine X.iconst dX6_gaps_69 (pc' := 70) rfl ?_
                refine X.goto (tgt := 74) dX6_gaps_70 (by decide) ?_
                refine X.istore_n (i := 3) (ls' := [some (rf m), some (vi s), some (vi x6), some (vi 1), some (vi q), some (vi k), some (vi 1)]) (hi := rfl) (hd := dX6_gaps_74) (by decide) rfl rfl (pc' := 75) rfl ?_
                refine X.iload (i := 6) rfl dX6_gaps_75 (pc' := 77) rfl ?_
                refine X.if_ne (tgt := 84) dX6_gaps_77 ⟨by omega, by omega⟩ (by decide) (pc' := 80) rfl (fun c77 => ?_) (fun c77 => by exfalso; omega)
                refine X.iconst dX6_gaps_84 (pc' := 85) rfl ?_
                refine X.istore (i := 4) (ls' := [some (rf m), some (vi s), some (vi x6), some (vi 1), some (vi 0), some (vi k), some (vi 1)]) (hd := dX6_gaps_85) (by decide) rfl rfl (pc' := 87) rfl ?_
                refine X.iinc (i := 5) (ls' := [some (rf m), some (vi s), some (vi x6), some (vi 1), some (vi 0), some (vi (k + 1)), some (vi 1)]) dX6_gaps_87 rfl (by decide) rfl rfl (pc' := 90) rfl ?_
                refine X.goto (tgt := 10) dX6_gaps_90 (by decide) ?_
                refine X.mask (bs := [true, true, true, true, true, true, false]) (ls' := [some (rf m), some (vi s), some (vi x6), some (vi 1), some (vi 0), some (vi (k + 1)), none]) rfl ?_
                refine ih10 x6 1 0 (k + 1) (by omega) ?_
                have g1 := gpF_in (g := aHe A s) hk0 (by omega)
                rw [if_pos (by omega)] at g1
                exact ⟨by omega, by omega, by omega, by omega, by omega, by omega, by omega⟩
              · refine X.iload (i := 6) rfl dX6_gaps_64 (pc' := 66) rfl ?_
                refine X.if_eq (tgt := 73) dX6_gaps_66 ⟨by omega, by omega⟩ (by decide) (pc' := 69) rfl (fun c66 => by exfalso; omega) (fun c66 => ?_)
                refine X.iconst dX6_gaps_69 (pc' := 70) rfl ?_
                refine X.goto (tgt := 74) dX6_gaps_70 (by decide) ?_
                refine X.istore_n (i := 3) (ls' := [some (rf m), some (vi s), some (vi x6), some (vi 1), some (vi q), some (vi k), some (vi 1)]) (hi := rfl) (hd := dX6_gaps_74) (by decide) rfl rfl (pc' := 75) rfl ?_
                refine X.iload (i := 6) rfl dX6_gaps_75 (pc' := 77) rfl ?_
                refine X.if_ne (tgt := 84) dX6_gaps_77 ⟨by omega, by omega⟩ (by decide) (pc' := 80) rfl (fun c77 => ?_) (fun c77 => by exfalso; omega)
                refine X.iconst dX6_gaps_84 (pc' := 85) rfl ?_
                refine X.istore (i := 4) (ls' := [some (rf m), some (vi s), some (vi x6), some (vi 1), some (vi 0), some (vi k), some (vi 1)]) (hd := dX6_gaps_85) (by decide) rfl rfl (pc' := 87) rfl ?_
                refine X.iinc (i := 5) (ls' := [some (rf m), some (vi s), some (vi x6), some (vi 1), some (vi 0), some (vi (k + 1)), some (vi 1)]) dX6_gaps_87 rfl (by decide) rfl rfl (pc' := 90) rfl ?_
                refine X.goto (tgt := 10) dX6_gaps_90 (by decide) ?_
                refine X.mask (bs := [true, true, true, true, true, true, false]) (ls' := [some (rf m), some (vi s), some (vi x6), some (vi 1), some (vi 0), some (vi (k + 1)), none]) rfl ?_
                refine ih10 x6 1 0 (k + 1) (by omega) ?_
                have g1 := gpF_in (g := aHe A s) hk0 (by omega)
                rw [if_pos (by omega)] at g1
                exact ⟨by omega, by omega, by omega, by omega, by omega, by omega, by omega⟩
  refine L10 _ 0 0 0 0 (Nat.lt_succ_self _) ?_
  exact ⟨by omega, by omega, rfl, rfl, rfl, Or.inl rfl, Or.inl rfl⟩
set_option maxHeartbeats 4000000 in
set_option maxRecDepth 100000 in
theorem k_X6_beatsOf {Ω : xO} {h : xM} {m : Nat} {A : aS} {s : Int} (hS : MoS h m) (hM : RM h (m + 1) 0 A) (hA : aOK A) (hs : 0 ≤ s ∧ s < 6) : xCt Ω yX6_beatsOf cX6_beatsOf 5 (some .int) rm_X6_beatsOf [rf m, vi s, vi 0] h (fun q h' => h = h' ∧ ∃ r, q = some (vi r) ∧ r = hBt A s) xNo := by
  refine xCt_of (ini := false) (by decide +kernel) (Nat.le_of_ble_eq_true rfl) (fun q => absurd q (by decide)) ?_
  generalize hPR : (fun q h' => h = h' ∧ ∃ r, q = some (vi r) ∧ r = hBt A s : Option xV → xM → Prop) = PR
  have K0 : X Ω RX6 cX6_beatsOf 5 (some .int) false rm_X6_beatsOf PR xNo 0 0 0 [some (rf m), some (vi s), some (vi 0), none, none] [] h := ?_
  exact K0
  obtain ⟨mSt, mB, mW, mWl, mWo, mCo, mHe⟩ := id hM
  obtain ⟨okB, okN, okWl, okS, okW, okM, okC, okH⟩ := id hA
  refine X.iconst dX6_beatsOf_0 (pc' := 1) rfl ?_
  refine X.istore_n (i := 3) (ls' := [some (rf m), some (vi s), some (vi 0), some (vi 0), none]) (hi := rfl) (hd := dX6_beatsOf_1) (by decide) rfl rfl (pc' := 2) rfl ?_
  refine X.iconst dX6_beatsOf_2 (pc' := 3) rfl ?_
  refine X.istore (i := 4) (ls' := [some (rf m), some (vi s), some (vi 0), some (vi 0), some (vi 0)]) (hd := dX6_beatsOf_3) (by decide) rfl rfl (pc' := 5) rfl ?_
  have L5 : ∀ (n5 : Nat) (c : Int) (k : Int), (aB A - k).toNat < n5 → (0 ≤ k ∧ k ≤ aB A ∧ c = cnt (fun k => aHe A s k ≠ -1) (fun _ => inferInstance) k.toNat) → X Ω RX6 cX6_beatsOf 5 (some .int) false rm_X6_beatsOf PR xNo 0 0 5 [some (rf m), some (vi s), some (vi 0), some (vi c), some (vi k)] [] h := by
    intro n5
    induction n5 with
    | zero => intro c k hm _; exfalso; omega
    | succ n5 ih5 =>
      intro c k hm5 hinv
      obtain ⟨hk0, hkn, hc⟩ := hinv
      refine X.iload (i := 4) rfl dX6_beatsOf_5 (pc' := 7) rfl ?_
      refine X.aload_n (i := 0) rfl rfl dX6_beatsOf_7 (pc' := 8) rfl ?_
      refine X.getR fk_X6_8 xcl_6 dX6_beatsOf_8 hS.1 hS.2.1 (pc' := 11) rfl ?_
      refine X.iconst dX6_beatsOf_11 (pc' := 12) rfl ?_
      refine X.iald (x := aB A) dX6_beatsOf_12 hS.2.2.1 (by omega) (by omega) ⟨by omega, by omega⟩ (mI_at mB (by omega)) (pc' := 13) rfl (fun r1 => ?_)
      obtain ⟨r1a, r1b⟩ := r1
      refine X.icmp_ge (tgt := 59) dX6_beatsOf_13 ⟨by omega, by omega⟩ ⟨by omega, by omega⟩ (by decide) (pc' := 16) rfl (fun c13 => ?_) (fun c13 => ?_)
      · refine X.iload_n (i := 3) rfl rfl dX6_beatsOf_59 (pc' := 60) rfl ?_
        refine X.iret dX6_beatsOf_60 (Or.inl rfl) (Nat.le_of_ble_eq_true rfl) (Nat.le_of_ble_eq_true rfl) ?_
        subst hPR
        have e : k = aB A := by omega
        subst e
        exact ⟨rfl, _, rfl, hc⟩
      · refine X.iload_n (i := 3) rfl rfl dX6_beatsOf_16 (pc' := 17) rfl ?_
        refine X.iload_n (i := 2) rfl rfl dX6_beatsOf_17 (pc' := 18) rfl ?_
        refine X.if_eq (tgt := 36) dX6_beatsOf_18 ⟨by omega, by omega⟩ (by decide) (pc' := 21) rfl (fun c18 => ?_) (fun c18 => by exfalso; omega)
        refine X.aload_n (i := 0) rfl rfl dX6_beatsOf_36 (pc' := 37) rfl ?_
        refine X.iload_n (i := 1) rfl rfl dX6_beatsOf_37 (pc' := 38) rfl ?_
        refine X.iload (i := 4) rfl dX6_beatsOf_38 (pc' := 40) rfl ?_
        refine X.callV (ci := 6) (a := m) (rm := rm_X6_heardAt) (As := [vi s, vi k]) (st := [vi c]) dX6_beatsOf_40 ck_X6_135 rfl (by decide) hS.1 rfl rfl ⟨Nat.le_of_ble_eq_true rfl, Nat.le_of_ble_eq_true rfl⟩ (Nat.le_of_ble_eq_true rfl) (Nat.le_of_ble_eq_true rfl) (Nat.le_of_ble_eq_true rfl) (pc' := 43) rfl (k_X6_heardAt hS hM hA hs ⟨by omega, by omega⟩) (fun q2 hq2 eq2 => ?_) (fun _ _ x1 => x1.elim)
        obtain ⟨rfl, x, rfl, hx⟩ := eq2
        have hx2 : x = aHe A s k := by rw [hx, if_pos (by omega)]
        have okk := okH s k (by omega) (by omega) (by omega) (by omega)
        refine X.if_lt (tgt := 50) dX6_beatsOf_43 ⟨by omega, by omega⟩ (by decide) (pc' := 46) rfl (fun c43 => ?_) (fun c43 => ?_)
        · refine X.iconst dX6_beatsOf_50 (pc' := 51) rfl ?_
          refine X.iadd dX6_beatsOf_51 (pc' := 52) rfl ?_
          refine X.gen (fun c2 hc2 => ?_)
          refine X.istore_n (i := 3) (ls' := [some (rf m), some (vi s), some (vi 0), some (vi c2), some (vi k)]) (hi := rfl) (hd := dX6_beatsOf_52) (by decide) rfl rfl (pc' := 53) rfl ?_
          refine X.iinc (i := 4) (ls' := [some (rf m), some (vi s), some (vi 0), some (vi c2), some (vi (k + 1))]) dX6_beatsOf_53 rfl (by decide) rfl rfl (pc' := 56) rfl ?_
          refine X.goto (tgt := 5) dX6_beatsOf_56 (by decide) ?_
          refine ih5 c2 (k + 1) (by omega) ?_
          exact ⟨by omega, by omega, by rw [hc2, Int.add_zero]; exact cnt_out hc hk0 (by (try dsimp only); omega)⟩
        · refine X.iconst dX6_beatsOf_46 (pc' := 47) rfl ?_
          refine X.goto (tgt := 51) dX6_beatsOf_47 (by decide) ?_
          refine X.iadd dX6_beatsOf_51 (pc' := 52) rfl ?_
          refine X.gen (fun c2 hc2 => ?_)
          refine X.istore_n (i := 3) (ls' := [some (rf m), some (vi s), some (vi 0), some (vi c2), some (vi k)]) (hi := rfl) (hd := dX6_beatsOf_52) (by decide) rfl rfl (pc' := 53) rfl ?_
          refine X.iinc (i := 4) (ls' := [some (rf m), some (vi s), some (vi 0), some (vi c2), some (vi (k + 1))]) dX6_beatsOf_53 rfl (by decide) rfl rfl (pc' := 56) rfl ?_
          refine X.goto (tgt := 5) dX6_beatsOf_56 (by decide) ?_
          refine ih5 c2 (k + 1) (by omega) ?_
          exact ⟨by omega, by omega, by rw [hc2]; exact cnt_in hc hk0 (by (try dsimp only); omega)⟩
  refine L5 _ 0 0 (Nat.lt_succ_self _) ?_
  exact ⟨by omega, by omega, rfl⟩
set_option maxHeartbeats 4000000 in
set_option maxRecDepth 100000 in
theorem k_X6_beatsOf1 {Ω : xO} {h : xM} {m : Nat} {A : aS} {s : Int} (hS : MoS h m) (hM : RM h (m + 1) 0 A) (hA : aOK A) (hs : 0 ≤ s ∧ s < 6) : xCt Ω yX6_beatsOf cX6_beatsOf 5 (some .int) rm_X6_beatsOf [rf m, vi s, vi 1] h (fun q h' => h = h' ∧ ∃ r, q = some (vi r) ∧ r = hRp A s) xNo := by
  refine xCt_of (ini := false) (by decide +kernel) (Nat.le_of_ble_eq_true rfl) (fun q => absurd q (by decide)) ?_
  generalize hPR : (fun q h' => h = h' ∧ ∃ r, q = some (vi r) ∧ r = hRp A s : Option xV → xM → Prop) = PR
  have K0 : X Ω RX6 cX6_beatsOf 5 (some .int) false rm_X6_beatsOf PR xNo 0 0 0 [some (rf m), some (vi s), some (vi 1), none, none] [] h := ?_
  exact K0
  obtain ⟨mSt, mB, mW, mWl, mWo, mCo, mHe⟩ := id hM
  obtain ⟨okB, okN, okWl, okS, okW, okM, okC, okH⟩ := id hA
  refine X.iconst dX6_beatsOf_0 (pc' := 1) rfl ?_
  refine X.istore_n (i := 3) (ls' := [some (rf m), some (vi s), some (vi 1), some (vi 0), none]) (hi := rfl) (hd := dX6_beatsOf_1) (by decide) rfl rfl (pc' := 2) rfl ?_
  refine X.iconst dX6_beatsOf_2 (pc' := 3) rfl ?_
  refine X.istore (i := 4) (ls' := [some (rf m), some (vi s), some (vi 1), some (vi 0), some (vi 0)]) (hd := dX6_beatsOf_3) (by decide) rfl rfl (pc' := 5) rfl ?_
  have L5 : ∀ (n5 : Nat) (c : Int) (k : Int), (aB A - k).toNat < n5 → (0 ≤ k ∧ k ≤ aB A ∧ c = cnt (fun k => 0 < k ∧ aHe A s k ≠ -1 ∧ aHe A s k = aHe A s (k - 1)) (fun _ => inferInstance) k.toNat) → X Ω RX6 cX6_beatsOf 5 (some .int) false rm_X6_beatsOf PR xNo 0 0 5 [some (rf m), some (vi s), some (vi 1), some (vi c), some (vi k)] [] h := by
    intro n5
    induction n5 with
    | zero => intro c k hm _; exfalso; omega
    | succ n5 ih5 =>
      intro c k hm5 hinv
      obtain ⟨hk0, hkn, hc⟩ := hinv
      refine X.iload (i := 4) rfl dX6_beatsOf_5 (pc' := 7) rfl ?_
      refine X.aload_n (i := 0) rfl rfl dX6_beatsOf_7 (pc' := 8) rfl ?_
      refine X.getR fk_X6_8 xcl_6 dX6_beatsOf_8 hS.1 hS.2.1 (pc' := 11) rfl ?_
      refine X.iconst dX6_beatsOf_11 (pc' := 12) rfl ?_
      refine X.iald (x := aB A) dX6_beatsOf_12 hS.2.2.1 (by omega) (by omega) ⟨by omega, by omega⟩ (mI_at mB (by omega)) (pc' := 13) rfl (fun r1 => ?_)
      obtain ⟨r1a, r1b⟩ := r1
      refine X.icmp_ge (tgt := 59) dX6_beatsOf_13 ⟨by omega, by omega⟩ ⟨by omega, by omega⟩ (by decide) (pc' := 16) rfl (fun c13 => ?_) (fun c13 => ?_)
      · refine X.iload_n (i := 3) rfl rfl dX6_beatsOf_59 (pc' := 60) rfl ?_
        refine X.iret dX6_beatsOf_60 (Or.inl rfl) (Nat.le_of_ble_eq_true rfl) (Nat.le_of_ble_eq_true rfl) ?_
        subst hPR
        have e : k = aB A := by omega
        subst e
        exact ⟨rfl, _, rfl, hc⟩
      · refine X.iload_n (i := 3) rfl rfl dX6_beatsOf_16 (pc' := 17) rfl ?_
        refine X.iload_n (i := 2) rfl rfl dX6_beatsOf_17 (pc' := 18) rfl ?_
        refine X.if_eq (tgt := 36) dX6_beatsOf_18 ⟨by omega, by omega⟩ (by decide) (pc' := 21) rfl (fun c18 => by exfalso; omega) (fun c18 => ?_)
        refine X.aload_n (i := 0) rfl rfl dX6_beatsOf_21 (pc' := 22) rfl ?_
        refine X.iload_n (i := 1) rfl rfl dX6_beatsOf_22 (pc' := 23) rfl ?_
        refine X.iload (i := 4) rfl dX6_beatsOf_23 (pc' := 25) rfl ?_
        refine X.iconst dX6_beatsOf_25 (pc' := 26) rfl ?_
        refine X.callV (ci := 6) (a := m) (rm := rm_X6_ofHeard) (As := [vi s, vi k, vi 2]) (st := [vi c]) dX6_beatsOf_26 ck_X6_138 rfl (by decide) hS.1 rfl rfl ⟨Nat.le_of_ble_eq_true rfl, Nat.le_of_ble_eq_true rfl⟩ (Nat.le_of_ble_eq_true rfl) (Nat.le_of_ble_eq_true rfl) (Nat.le_of_ble_eq_true rfl) (pc' := 29) rfl (k_X6_ofHeard hS hM hA hs ⟨by omega, by omega⟩ ⟨by omega, by omega⟩) (fun q2 hq2 eq2 => ?_) (fun _ _ x1 => x1.elim)
        obtain ⟨rfl, x, rfl, hx⟩ := eq2
        have hx2 : (x = 1 ∧ (0 < k ∧ aHe A s k ≠ -1 ∧ aHe A s k = aHe A s (k - 1))) ∨ ((x = 0 ∨ x = -1) ∧ ¬ (0 < k ∧ aHe A s k ≠ -1 ∧ aHe A s k = aHe A s (k - 1))) := by
          rw [hx, if_pos (by omega)]
          unfold oBt
          rw [if_neg (show ¬ (2 : Int) = 0 by decide), if_neg (show ¬ (2 : Int) = 1 by decide)]
          split
          · omega
          · split <;> omega
        refine X.iconst dX6_beatsOf_29 (pc' := 30) rfl ?_
        refine X.icmp_ne (tgt := 50) dX6_beatsOf_30 ⟨by omega, by omega⟩ ⟨by omega, by omega⟩ (by decide) (pc' := 33) rfl (fun c30 => ?_) (fun c30 => ?_)
        · refine X.iconst dX6_beatsOf_50 (pc' := 51) rfl ?_
          refine X.iadd dX6_beatsOf_51 (pc' := 52) rfl ?_
          refine X.gen (fun c2 hc2 => ?_)
          refine X.istore_n (i := 3) (ls' := [some (rf m), some (vi s), some (vi 1), some (vi c2), some (vi k)]) (hi := rfl) (hd := dX6_beatsOf_52) (by decide) rfl rfl (pc' := 53) rfl ?_
          refine X.iinc (i := 4) (ls' := [some (rf m), some (vi s), some (vi 1), some (vi c2), some (vi (k + 1))]) dX6_beatsOf_53 rfl (by decide) rfl rfl (pc' := 56) rfl ?_
          refine X.goto (tgt := 5) dX6_beatsOf_56 (by decide) ?_
          refine ih5 c2 (k + 1) (by omega) ?_
          exact ⟨by omega, by omega, by rw [hc2, Int.add_zero]; exact cnt_out hc hk0 (by (try dsimp only); omega)⟩
        · refine X.goto (tgt := 46) dX6_beatsOf_33 (by decide) ?_
          refine X.iconst dX6_beatsOf_46 (pc' := 47) rfl ?_
          refine X.goto (tgt := 51) dX6_beatsOf_47 (by decide) ?_
          refine X.iadd dX6_beatsOf_51 (pc' := 52) rfl ?_
          refine X.gen (fun c2 hc2 => ?_)
          refine X.istore_n (i := 3) (ls' := [some (rf m), some (vi s), some (vi 1), some (vi c2), some (vi k)]) (hi := rfl) (hd := dX6_beatsOf_52) (by decide) rfl rfl (pc' := 53) rfl ?_
          refine X.iinc (i := 4) (ls' := [some (rf m), some (vi s), some (vi 1), some (vi c2), some (vi (k + 1))]) dX6_beatsOf_53 rfl (by decide) rfl rfl (pc' := 56) rfl ?_
          refine X.goto (tgt := 5) dX6_beatsOf_56 (by decide) ?_
          refine ih5 c2 (k + 1) (by omega) ?_
          exact ⟨by omega, by omega, by rw [hc2]; exact cnt_in hc hk0 (by (try dsimp only); omega)⟩
  refine L5 _ 0 0 (Nat.lt_succ_self _) ?_
  exact ⟨by omega, by omega, rfl⟩
set_option maxHeartbeats 4000000 in
set_option maxRecDepth 100000 in
theorem k_X6_ofSpeaker {Ω : xO} {h : xM} {m : Nat} {A : aS} {s w : Int} (hS : MoS h m) (hM : RM h (m + 1) 0 A) (hA : aOK A) (hs : 0 ≤ s ∧ s < 6) (hw : 0 ≤ w ∧ w ≤ 7) : xCt Ω yX6_ofSpeaker cX6_ofSpeaker 3 (some .int) rm_X6_ofSpeaker [rf m, vi s, vi w] h (fun q h' => h = h' ∧ ∃ r, q = some (vi r) ∧ r = oSp A s w) xNo := by
  refine xCt_of (ini := false) (by decide +kernel) (Nat.le_of_ble_eq_true rfl) (fun q => absurd q (by decide)) ?_
  generalize hPR : (fun q h' => h = h' ∧ ∃ r, q = some (vi r) ∧ r = oSp A s w : Option xV → xM → Prop) = PR
  have K0 : X Ω RX6 cX6_ofSpeaker 3 (some .int) false rm_X6_ofSpeaker PR xNo 0 0 0 [some (rf m), some (vi s), some (vi w)] [] h := ?_
  exact K0
  obtain ⟨mSt, mB, mW, mWl, mWo, mCo, mHe⟩ := id hM
  obtain ⟨okB, okN, okWl, okS, okW, okM, okC, okH⟩ := id hA
  refine X.iload_n (i := 2) rfl rfl dX6_ofSpeaker_0 (pc' := 1) rfl ?_
  rcases (show w = 0 ∨ w = 1 ∨ w = 2 ∨ w = 3 ∨ w = 4 ∨ w = 5 ∨ w = 6 ∨ (w < 0 ∨ 6 < w) by omega) with sw1 | sw1 | sw1 | sw1 | sw1 | sw1 | sw1 | sw1
  · refine X.tableIn (tgt := 44) (off := 43) dX6_ofSpeaker_1 ⟨by omega, by omega⟩ (by omega) (by omega) (by rw [sw1]; rfl) (by decide) ?_
    refine X.aload_n (i := 0) rfl rfl dX6_ofSpeaker_44 (pc' := 45) rfl ?_
    refine X.getR fk_X6_8 xcl_6 dX6_ofSpeaker_45 hS.1 hS.2.1 (pc' := 48) rfl ?_
    refine X.iconst dX6_ofSpeaker_48 (pc' := 49) rfl ?_
    refine X.iload_n (i := 1) rfl rfl dX6_ofSpeaker_49 (pc' := 50) rfl ?_
    refine X.iadd dX6_ofSpeaker_50 (pc' := 51) rfl ?_
    refine X.iald (x := aWl A s) dX6_ofSpeaker_51 hS.2.2.1 (by omega) (by omega) ⟨by omega, by omega⟩ (mI_at (mWl s (by omega) (by omega)) (by omega)) (pc' := 52) rfl (fun r2 => ?_)
    obtain ⟨r2a, r2b⟩ := r2
    refine X.iret dX6_ofSpeaker_52 (Or.inl rfl) (Nat.le_of_ble_eq_true rfl) (Nat.le_of_ble_eq_true rfl) ?_
    subst hPR
    subst sw1
    exact ⟨rfl, _, rfl, rfl⟩
  · refine X.tableIn (tgt := 53) (off := 52) dX6_ofSpeaker_1 ⟨by omega, by omega⟩ (by omega) (by omega) (by rw [sw1]; rfl) (by decide) ?_
    refine X.aload_n (i := 0) rfl rfl dX6_ofSpeaker_53 (pc' := 54) rfl ?_
    refine X.iload_n (i := 1) rfl rfl dX6_ofSpeaker_54 (pc' := 55) rfl ?_
    refine X.iconst dX6_ofSpeaker_55 (pc' := 56) rfl ?_
    refine X.callV (ci := 6) (a := m) (rm := rm_X6_beatsOf) (As := [vi s, vi 0]) (st := []) dX6_ofSpeaker_56 ck_X6_141 rfl (by decide) hS.1 rfl rfl ⟨Nat.le_of_ble_eq_true rfl, Nat.le_of_ble_eq_true rfl⟩ (Nat.le_of_ble_eq_true rfl) (Nat.le_of_ble_eq_true rfl) (Nat.le_of_ble_eq_true rfl) (pc' := 59) rfl (k_X6_beatsOf hS hM hA hs) (fun q3 hq3 eq3 => ?_) (fun _ _ x1 => x1.elim)
    obtain ⟨rfl, r4, rfl, hr4⟩ := eq3
    refine X.iret dX6_ofSpeaker_59 (Or.inl rfl) (Nat.le_of_ble_eq_true rfl) (Nat.le_of_ble_eq_true rfl) ?_
    subst hPR
    subst sw1
    exact ⟨rfl, _, rfl, hr4⟩
  · refine X.tableIn (tgt := 93) (off := 92) dX6_ofSpeaker_1 ⟨by omega, by omega⟩ (by omega) (by omega) (by rw [sw1]; rfl) (by decide) ?_
    refine X.aload_n (i := 0) rfl rfl dX6_ofSpeaker_93 (pc' := 94) rfl ?_
    refine X.iload_n (i := 1) rfl rfl dX6_ofSpeaker_94 (pc' := 95) rfl ?_
    refine X.callV (ci := 6) (a := m) (rm := rm_X6_distinct) (As := [vi s]) (st := []) dX6_ofSpeaker_95 ck_X6_151 rfl (by decide) hS.1 rfl rfl ⟨Nat.le_of_ble_eq_true rfl, Nat.le_of_ble_eq_true rfl⟩ (Nat.le_of_ble_eq_true rfl) (Nat.le_of_ble_eq_true rfl) (Nat.le_of_ble_eq_true rfl) (pc' := 98) rfl (k_X6_distinct hS hM hA hs) (fun q5 hq5 eq5 => ?_) (fun _ _ x1 => x1.elim)
    obtain ⟨rfl, r6, rfl, hr6⟩ := eq5
    refine X.iret dX6_ofSpeaker_98 (Or.inl rfl) (Nat.le_of_ble_eq_true rfl) (Nat.le_of_ble_eq_true rfl) ?_
    subst hPR
    subst sw1
    exact ⟨rfl, _, rfl, hr6⟩
  · refine X.tableIn (tgt := 60) (off := 59) dX6_ofSpeaker_1 ⟨by omega, by omega⟩ (by omega) (by omega) (by rw [sw1]; rfl) (by decide) ?_
    refine X.aload_n (i := 0) rfl rfl dX6_ofSpeaker_60 (pc' := 61) rfl ?_
    refine X.iload_n (i := 1) rfl rfl dX6_ofSpeaker_61 (pc' := 62) rfl ?_
    refine X.iconst dX6_ofSpeaker_62 (pc' := 63) rfl ?_
    refine X.callV (ci := 6) (a := m) (rm := rm_X6_beatsOf) (As := [vi s, vi 1]) (st := []) dX6_ofSpeaker_63 ck_X6_141 rfl (by decide) hS.1 rfl rfl ⟨Nat.le_of_ble_eq_true rfl, Nat.le_of_ble_eq_true rfl⟩ (Nat.le_of_ble_eq_true rfl) (Nat.le_of_ble_eq_true rfl) (Nat.le_of_ble_eq_true rfl) (pc' := 66) rfl (k_X6_beatsOf1 hS hM hA hs) (fun q7 hq7 eq7 => ?_) (fun _ _ x1 => x1.elim)
    obtain ⟨rfl, r8, rfl, hr8⟩ := eq7
    refine X.iret dX6_ofSpeaker_66 (Or.inl rfl) (Nat.le_of_ble_eq_true rfl) (Nat.le_of_ble_eq_true rfl) ?_
    subst hPR
    subst sw1
    exact ⟨rfl, _, rfl, hr8⟩
  · refine X.tableIn (tgt := 67) (off := 66) dX6_ofSpeaker_1 ⟨by omega, by omega⟩ (by omega) (by omega) (by rw [sw1]; rfl) (by decide) ?_
    refine X.aload_n (i := 0) rfl rfl dX6_ofSpeaker_67 (pc' := 68) rfl ?_
    refine X.getR fk_X6_8 xcl_6 dX6_ofSpeaker_68 hS.1 hS.2.1 (pc' := 71) rfl ?_
    refine X.iconst dX6_ofSpeaker_71 (pc' := 72) rfl ?_
    refine X.iald (x := aB A) dX6_ofSpeaker_72 hS.2.2.1 (by omega) (by omega) ⟨by omega, by omega⟩ (mI_at mB (by omega)) (pc' := 73) rfl (fun r9 => ?_)
    obtain ⟨r9a, r9b⟩ := r9
    refine X.aload_n (i := 0) rfl rfl dX6_ofSpeaker_73 (pc' := 74) rfl ?_
    refine X.iload_n (i := 1) rfl rfl dX6_ofSpeaker_74 (pc' := 75) rfl ?_
    refine X.iconst dX6_ofSpeaker_75 (pc' := 76) rfl ?_
    refine X.callV (ci := 6) (a := m) (rm := rm_X6_beatsOf) (As := [vi s, vi 0]) (st := [vi (aB A)]) dX6_ofSpeaker_76 ck_X6_141 rfl (by decide) hS.1 rfl rfl ⟨Nat.le_of_ble_eq_true rfl, Nat.le_of_ble_eq_true rfl⟩ (Nat.le_of_ble_eq_true rfl) (Nat.le_of_ble_eq_true rfl) (Nat.le_of_ble_eq_true rfl) (pc' := 79) rfl (k_X6_beatsOf hS hM hA hs) (fun q10 hq10 eq10 => ?_) (fun _ _ x1 => x1.elim)
    obtain ⟨rfl, r11, rfl, hr11⟩ := eq10
    refine X.isub dX6_ofSpeaker_79 (pc' := 80) rfl ?_
    refine X.iret dX6_ofSpeaker_80 (Or.inl rfl) (Nat.le_of_ble_eq_true rfl) (Nat.le_of_ble_eq_true rfl) ?_
    subst hPR
    subst sw1
    refine ⟨rfl, _, rfl, ?_⟩
    show _ = aB A - hBt A s
    omega
  · refine X.tableIn (tgt := 81) (off := 80) dX6_ofSpeaker_1 ⟨by omega, by omega⟩ (by omega) (by omega) (by rw [sw1]; rfl) (by decide) ?_
    refine X.aload_n (i := 0) rfl rfl dX6_ofSpeaker_81 (pc' := 82) rfl ?_
    refine X.iload_n (i := 1) rfl rfl dX6_ofSpeaker_82 (pc' := 83) rfl ?_
    refine X.callV (ci := 6) (a := m) (rm := rm_X6_gaps) (As := [vi s]) (st := []) dX6_ofSpeaker_83 ck_X6_145 rfl (by decide) hS.1 rfl rfl ⟨Nat.le_of_ble_eq_true rfl, Nat.le_of_ble_eq_true rfl⟩ (Nat.le_of_ble_eq_true rfl) (Nat.le_of_ble_eq_true rfl) (Nat.le_of_ble_eq_true rfl) (pc' := 86) rfl (k_X6_gaps hS hM hA hs) (fun q12 hq12 eq12 => ?_) (fun _ _ x1 => x1.elim)
    obtain ⟨rfl, r13, rfl, hr13⟩ := eq12
    refine X.iret dX6_ofSpeaker_86 (Or.inl rfl) (Nat.le_of_ble_eq_true rfl) (Nat.le_of_ble_eq_true rfl) ?_
    subst hPR
    subst sw1
    exact ⟨rfl, _, rfl, hr13⟩
  · refine X.tableIn (tgt := 87) (off := 86) dX6_ofSpeaker_1 ⟨by omega, by omega⟩ (by omega) (by omega) (by rw [sw1]; rfl) (by decide) ?_
    refine X.aload_n (i := 0) rfl rfl dX6_ofSpeaker_87 (pc' := 88) rfl ?_
    refine X.iload_n (i := 1) rfl rfl dX6_ofSpeaker_88 (pc' := 89) rfl ?_
    refine X.callV (ci := 6) (a := m) (rm := rm_X6_wordsOf) (As := [vi s]) (st := []) dX6_ofSpeaker_89 ck_X6_148 rfl (by decide) hS.1 rfl rfl ⟨Nat.le_of_ble_eq_true rfl, Nat.le_of_ble_eq_true rfl⟩ (Nat.le_of_ble_eq_true rfl) (Nat.le_of_ble_eq_true rfl) (Nat.le_of_ble_eq_true rfl) (pc' := 92) rfl (k_X6_wordsOf hS hM hA hs) (fun q14 hq14 eq14 => ?_) (fun _ _ x1 => x1.elim)
    obtain ⟨rfl, r15, rfl, hr15⟩ := eq14
    refine X.iret dX6_ofSpeaker_92 (Or.inl rfl) (Nat.le_of_ble_eq_true rfl) (Nat.le_of_ble_eq_true rfl) ?_
    subst hPR
    subst sw1
    exact ⟨rfl, _, rfl, hr15⟩
  · refine X.tableOut (tgt := 93) dX6_ofSpeaker_1 ⟨by omega, by omega⟩ sw1 (by decide) ?_
    refine X.aload_n (i := 0) rfl rfl dX6_ofSpeaker_93 (pc' := 94) rfl ?_
    refine X.iload_n (i := 1) rfl rfl dX6_ofSpeaker_94 (pc' := 95) rfl ?_
    refine X.callV (ci := 6) (a := m) (rm := rm_X6_distinct) (As := [vi s]) (st := []) dX6_ofSpeaker_95 ck_X6_151 rfl (by decide) hS.1 rfl rfl ⟨Nat.le_of_ble_eq_true rfl, Nat.le_of_ble_eq_true rfl⟩ (Nat.le_of_ble_eq_true rfl) (Nat.le_of_ble_eq_true rfl) (Nat.le_of_ble_eq_true rfl) (pc' := 98) rfl (k_X6_distinct hS hM hA hs) (fun q16 hq16 eq16 => ?_) (fun _ _ x1 => x1.elim)
    obtain ⟨rfl, r17, rfl, hr17⟩ := eq16
    refine X.iret dX6_ofSpeaker_98 (Or.inl rfl) (Nat.le_of_ble_eq_true rfl) (Nat.le_of_ble_eq_true rfl) ?_
    subst hPR
    have e : w = 7 := by omega
    subst e
    exact ⟨rfl, _, rfl, hr17⟩
set_option maxHeartbeats 4000000 in
set_option maxRecDepth 100000 in
theorem k_X6_how {Ω : xO} {h : xM} {m : Nat} {A : aS} {f u s : Int} (hS : MoS h m) (hM : RM h (m + 1) 0 A) (hA : aOK A) (hf : 0 ≤ f ∧ f < 6) (hu : 0 ≤ u ∧ u ≤ 9) (hs : 0 ≤ s ∧ s < 6) : xCt Ω yX6_how cX6_how 10 (some .int) rm_X6_how [rf m, vi f, vi u, vi s] h (fun q h' => h = h' ∧ ∃ r, q = some (vi r) ∧ r = how A f u s) xNo := by
  refine xCt_of (ini := false) (by decide +kernel) (Nat.le_of_ble_eq_true rfl) (fun q => absurd q (by decide)) ?_
  generalize hPR : (fun q h' => h = h' ∧ ∃ r, q = some (vi r) ∧ r = how A f u s : Option xV → xM → Prop) = PR
  have K0 : X Ω RX6 cX6_how 10 (some .int) false rm_X6_how PR xNo 0 0 0 [some (rf m), some (vi f), some (vi u), some (vi s), none, none, none, none, none, none] [] h := ?_
  exact K0
  obtain ⟨mSt, mB, mW, mWl, mWo, mCo, mHe⟩ := id hM
  obtain ⟨okB, okN, okWl, okS, okW, okM, okC, okH⟩ := id hA
  refine X.iconst dX6_how_0 (pc' := 1) rfl ?_
  refine X.istore (i := 4) (ls' := [some (rf m), some (vi f), some (vi u), some (vi s), some (vi 0), none, none, none, none, none]) (hd := dX6_how_1) (by decide) rfl rfl (pc' := 3) rfl ?_
  refine X.iconst dX6_how_3 (pc' := 4) rfl ?_
  refine X.istore (i := 5) (ls' := [some (rf m), some (vi f), some (vi u), some (vi s), some (vi 0), some (vi 0), none, none, none, none]) (hd := dX6_how_4) (by decide) rfl rfl (pc' := 6) rfl ?_
  refine X.iconst dX6_how_6 (pc' := 7) rfl ?_
  refine X.istore (i := 6) (ls' := [some (rf m), some (vi f), some (vi u), some (vi s), some (vi 0), some (vi 0), some (vi ((-1))), none, none, none]) (hd := dX6_how_7) (by decide) rfl rfl (pc' := 9) rfl ?_
  refine X.iconst dX6_how_9 (pc' := 10) rfl ?_
  refine X.istore (i := 7) (ls' := [some (rf m), some (vi f), some (vi u), some (vi s), some (vi 0), some (vi 0), some (vi ((-1))), some (vi 1), none, none]) (hd := dX6_how_10) (by decide) rfl rfl (pc' := 12) rfl ?_
  refine X.iconst dX6_how_12 (pc' := 13) rfl ?_
  refine X.istore (i := 8) (ls' := [some (rf m), some (vi f), some (vi u), some (vi s), some (vi 0), some (vi 0), some (vi ((-1))), some (vi 1), some (vi 0), none]) (hd := dX6_how_13) (by decide) rfl rfl (pc' := 15) rfl ?_
  have L15 : ∀ (n15 : Nat) (a : Int) (c : Int) (l : Int) (o : Int) (k : Int), (aW A - k).toNat < n15 → (0 ≤ k ∧ k ≤ aW A ∧ a = (hwF A f u s k.toNat).1 ∧ c = (hwF A f u s k.toNat).2.1 ∧ l = (hwF A f u s k.toNat).2.2.1 ∧ o = (hwF A f u s k.toNat).2.2.2 ∧ (-1 ≤ l ∧ l ≤ 400)) → X Ω RX6 cX6_how 10 (some .int) false rm_X6_how PR xNo 0 0 15 [some (rf m), some (vi f), some (vi u), some (vi s), some (vi a), some (vi c), some (vi l), some (vi o), some (vi k), none] [] h := by
    intro n15
    induction n15 with
    | zero => intro a c l o k hm _; exfalso; omega
    | succ n15 ih15 =>
      intro a c l o k hm15 hinv
      obtain ⟨hk0, hkn, ha, hc, hl, ho, hlr⟩ := hinv
      have hgr := hwF_rng A f u s k.toNat
      have hb1 : (0 ≤ a ∧ a ≤ 200) ∧ (0 ≤ c ∧ c ≤ 200) ∧ (o = 0 ∨ o = 1) := by omega
      refine X.iload (i := 8) rfl dX6_how_15 (pc' := 17) rfl ?_
      refine X.aload_n (i := 0) rfl rfl dX6_how_17 (pc' := 18) rfl ?_
      refine X.getR fk_X6_8 xcl_6 dX6_how_18 hS.1 hS.2.1 (pc' := 21) rfl ?_
      refine X.iconst dX6_how_21 (pc' := 22) rfl ?_
      refine X.iald (x := aW A) dX6_how_22 hS.2.2.1 (by omega) (by omega) ⟨by omega, by omega⟩ (mI_at mW (by omega)) (pc' := 23) rfl (fun r1 => ?_)
      obtain ⟨r1a, r1b⟩ := r1
      refine X.icmp_ge (tgt := 116) dX6_how_23 ⟨by omega, by omega⟩ ⟨by omega, by omega⟩ (by decide) (pc' := 26) rfl (fun c23 => ?_) (fun c23 => ?_)
      · refine X.iload (i := 4) rfl dX6_how_116 (pc' := 118) rfl ?_
        refine X.if_ne (tgt := 125) dX6_how_118 ⟨by omega, by omega⟩ (by decide) (pc' := 121) rfl (fun c118 => ?_) (fun c118 => ?_)
        · refine X.iload (i := 5) rfl dX6_how_125 (pc' := 127) rfl ?_
          refine X.if_ne (tgt := 134) dX6_how_127 ⟨by omega, by omega⟩ (by decide) (pc' := 130) rfl (fun c127 => ?_) (fun c127 => ?_)
          · refine X.iload (i := 5) rfl dX6_how_134 (pc' := 136) rfl ?_
            refine X.iload (i := 4) rfl dX6_how_136 (pc' := 138) rfl ?_
            refine X.icmp_ge (tgt := 145) dX6_how_138 ⟨by omega, by omega⟩ ⟨by omega, by omega⟩ (by decide) (pc' := 141) rfl (fun c138 => ?_) (fun c138 => ?_)
            · refine X.iload (i := 7) rfl dX6_how_145 (pc' := 147) rfl ?_
              refine X.if_eq (tgt := 154) dX6_how_147 ⟨by omega, by omega⟩ (by decide) (pc' := 150) rfl (fun c147 => ?_) (fun c147 => ?_)
              · refine X.iconst dX6_how_154 (pc' := 155) rfl ?_
                refine X.iret dX6_how_155 (Or.inl rfl) (Nat.le_of_ble_eq_true rfl) (Nat.le_of_ble_eq_true rfl) ?_
                subst hPR
                have e : k = aW A := by omega
                subst e
                refine ⟨rfl, _, rfl, ?_⟩
                unfold how
                rw [← ha, ← hc, ← ho]
                split <;> (try split) <;> (try split) <;> (try split) <;> omega
              · refine X.iconst dX6_how_150 (pc' := 151) rfl ?_
                refine X.goto (tgt := 155) dX6_how_151 (by decide) ?_
                refine X.iret dX6_how_155 (Or.inl rfl) (Nat.le_of_ble_eq_true rfl) (Nat.le_of_ble_eq_true rfl) ?_
                subst hPR
                have e : k = aW A := by omega
                subst e
                refine ⟨rfl, _, rfl, ?_⟩
                unfold how
                rw [← ha, ← hc, ← ho]
                split <;> (try split) <;> (try split) <;> (try split) <;> omega
            · refine X.iconst dX6_how_141 (pc' := 142) rfl ?_
              refine X.goto (tgt := 155) dX6_how_142 (by decide) ?_
              refine X.iret dX6_how_155 (Or.inl rfl) (Nat.le_of_ble_eq_true rfl) (Nat.le_of_ble_eq_true rfl) ?_
              subst hPR
              have e : k = aW A := by omega
              subst e
              refine ⟨rfl, _, rfl, ?_⟩
              unfold how
              rw [← ha, ← hc, ← ho]
              split <;> (try split) <;> (try split) <;> (try split) <;> omega
          · refine X.iconst dX6_how_130 (pc' := 131) rfl ?_
            refine X.goto (tgt := 155) dX6_how_131 (by decide) ?_
            refine X.iret dX6_how_155 (Or.inl rfl) (Nat.le_of_ble_eq_true rfl) (Nat.le_of_ble_eq_true rfl) ?_
            subst hPR
            have e : k = aW A := by omega
            subst e
            refine ⟨rfl, _, rfl, ?_⟩
            unfold how
            rw [← ha, ← hc, ← ho]
            split <;> (try split) <;> (try split) <;> (try split) <;> omega
        · refine X.iconst dX6_how_121 (pc' := 122) rfl ?_
          refine X.goto (tgt := 155) dX6_how_122 (by decide) ?_
          refine X.iret dX6_how_155 (Or.inl rfl) (Nat.le_of_ble_eq_true rfl) (Nat.le_of_ble_eq_true rfl) ?_
          subst hPR
          have e : k = aW A := by omega
          subst e
          refine ⟨rfl, _, rfl, ?_⟩
          unfold how
          rw [← ha, ← hc, ← ho]
          split <;> (try split) <;> (try split) <;> (try split) <;> omega
      · refine X.aload_n (i := 0) rfl rfl dX6_how_26 (pc' := 27) rfl ?_
        refine X.iload (i := 8) rfl dX6_how_27 (pc' := 29) rfl ?_
        refine X.iconst dX6_how_29 (pc' := 30) rfl ?_
        refine X.callV (ci := 6) (a := m) (rm := rm_X6_part) (As := [vi k, vi 0]) (st := []) dX6_how_30 ck_X6_40 rfl (by decide) hS.1 rfl rfl ⟨Nat.le_of_ble_eq_true rfl, Nat.le_of_ble_eq_true rfl⟩ (Nat.le_of_ble_eq_true rfl) (Nat.le_of_ble_eq_true rfl) (Nat.le_of_ble_eq_true rfl) (pc' := 33) rfl (k_X6_part hS (by omega) (by omega)) (fun q2 hq2 eq2 => ?_) (fun _ _ x1 => x1.elim)
        obtain ⟨rfl, y, rfl, hy⟩ := eq2
        have hwd := mWo k (by omega) (by omega)
        have okn := okW k (by omega) (by omega)
        have hy2 : y = aSe A k := by rw [hy]; exact mI_at hwd.1 (by omega)
        refine X.iload_n (i := 1) rfl rfl dX6_how_33 (pc' := 34) rfl ?_
        refine X.icmp_ne (tgt := 110) dX6_how_34 ⟨by omega, by omega⟩ ⟨by omega, by omega⟩ (by decide) (pc' := 37) rfl (fun c34 => ?_) (fun c34 => ?_)
        · refine X.iinc (i := 8) (ls' := [some (rf m), some (vi f), some (vi u), some (vi s), some (vi a), some (vi c), some (vi l), some (vi o), some (vi (k + 1)), none]) dX6_how_110 rfl (by decide) rfl rfl (pc' := 113) rfl ?_
          refine X.goto (tgt := 15) dX6_how_113 (by decide) ?_
          refine ih15 a c l o (k + 1) (by omega) ?_
          have g1 := hwF_out (A := A) (f := f) (m := u) (s := s) hk0 (by omega)
          rw [g1]
          exact ⟨by omega, by omega, ha, hc, hl, ho, hlr⟩
        · refine X.aload_n (i := 0) rfl rfl dX6_how_37 (pc' := 38) rfl ?_
          refine X.iload (i := 8) rfl dX6_how_38 (pc' := 40) rfl ?_
          refine X.iconst dX6_how_40 (pc' := 41) rfl ?_
          refine X.callV (ci := 6) (a := m) (rm := rm_X6_part) (As := [vi k, vi 2]) (st := []) dX6_how_41 ck_X6_40 rfl (by decide) hS.1 rfl rfl ⟨Nat.le_of_ble_eq_true rfl, Nat.le_of_ble_eq_true rfl⟩ (Nat.le_of_ble_eq_true rfl) (Nat.le_of_ble_eq_true rfl) (Nat.le_of_ble_eq_true rfl) (pc' := 44) rfl (k_X6_part hS (by omega) (by omega)) (fun q3 hq3 eq3 => ?_) (fun _ _ x1 => x1.elim)
          obtain ⟨rfl, z, rfl, hz⟩ := eq3
          have hz2 : z = aMa A k := by rw [hz]; exact mI_at hwd.2.2.1 (by omega)
          refine X.iload_n (i := 2) rfl rfl dX6_how_44 (pc' := 45) rfl ?_
          refine X.icmp_ne (tgt := 110) dX6_how_45 ⟨by omega, by omega⟩ ⟨by omega, by omega⟩ (by decide) (pc' := 48) rfl (fun c45 => ?_) (fun c45 => ?_)
          · refine X.iinc (i := 8) (ls' := [some (rf m), some (vi f), some (vi u), some (vi s), some (vi a), some (vi c), some (vi l), some (vi o), some (vi (k + 1)), none]) dX6_how_110 rfl (by decide) rfl rfl (pc' := 113) rfl ?_
            refine X.goto (tgt := 15) dX6_how_113 (by decide) ?_
            refine ih15 a c l o (k + 1) (by omega) ?_
            have g1 := hwF_out (A := A) (f := f) (m := u) (s := s) hk0 (by omega)
            rw [g1]
            exact ⟨by omega, by omega, ha, hc, hl, ho, hlr⟩
          · refine X.aload_n (i := 0) rfl rfl dX6_how_48 (pc' := 49) rfl ?_
            refine X.iload (i := 8) rfl dX6_how_49 (pc' := 51) rfl ?_
            refine X.iload_n (i := 3) rfl rfl dX6_how_51 (pc' := 52) rfl ?_
            refine X.callV (ci := 6) (a := m) (rm := rm_X6_firstHeard) (As := [vi k, vi s]) (st := []) dX6_how_52 ck_X6_120 rfl (by decide) hS.1 rfl rfl ⟨Nat.le_of_ble_eq_true rfl, Nat.le_of_ble_eq_true rfl⟩ (Nat.le_of_ble_eq_true rfl) (Nat.le_of_ble_eq_true rfl) (Nat.le_of_ble_eq_true rfl) (pc' := 55) rfl (k_X6_firstHeard hS hM hA ⟨by omega, by omega⟩ hs) (fun q4 hq4 eq4 => ?_) (fun _ _ x1 => x1.elim)
            obtain ⟨rfl, fi, rfl, hfi⟩ := eq4
            have hfr := fh_rng hA s k (by omega) (by omega) (by omega) (by omega)
            refine X.istore (i := 9) (ls' := [some (rf m), some (vi f), some (vi u), some (vi s), some (vi a), some (vi c), some (vi l), some (vi o), some (vi k), some (vi fi)]) (hd := dX6_how_55) (by decide) rfl rfl (pc' := 57) rfl ?_
            refine X.iinc (i := 4) (ls' := [some (rf m), some (vi f), some (vi u), some (vi s), some (vi (a + 1)), some (vi c), some (vi l), some (vi o), some (vi k), some (vi fi)]) dX6_how_57 rfl (by decide) rfl rfl (pc' := 60) rfl ?_
            refine X.iload (i := 5) rfl dX6_how_60 (pc' := 62) rfl ?_
            refine X.iload (i := 9) rfl dX6_how_62 (pc' := 64) rfl ?_
            refine X.if_lt (tgt := 71) dX6_how_64 ⟨by omega, by omega⟩ (by decide) (pc' := 67) rfl (fun c64 => ?_) (fun c64 => ?_)
            · refine X.iconst dX6_how_71 (pc' := 72) rfl ?_
              refine X.iadd dX6_how_72 (pc' := 73) rfl ?_
              refine X.gen (fun x5 hx5 => ?_)
              refine X.istore (i := 5) (ls' := [some (rf m), some (vi f), some (vi u), some (vi s), some (vi (a + 1)), some (vi x5), some (vi l), some (vi o), some (vi k), some (vi fi)]) (hd := dX6_how_73) (by decide) rfl rfl (pc' := 75) rfl ?_
              refine X.iload (i := 7) rfl dX6_how_75 (pc' := 77) rfl ?_
              refine X.if_eq (tgt := 91) dX6_how_77 ⟨by omega, by omega⟩ (by decide) (pc' := 80) rfl (fun c77 => ?_) (fun c77 => ?_)
              · refine X.iconst dX6_how_91 (pc' := 92) rfl ?_
                refine X.istore (i := 7) (ls' := [some (rf m), some (vi f), some (vi u), some (vi s), some (vi (a + 1)), some (vi x5), some (vi l), some (vi 0), some (vi k), some (vi fi)]) (hd := dX6_how_92) (by decide) rfl rfl (pc' := 94) rfl ?_
                refine X.iload (i := 9) rfl dX6_how_94 (pc' := 96) rfl ?_
                refine X.iload (i := 6) rfl dX6_how_96 (pc' := 98) rfl ?_
                refine X.icmp_le (tgt := 106) dX6_how_98 ⟨by omega, by omega⟩ ⟨by omega, by omega⟩ (by decide) (pc' := 101) rfl (fun c98 => ?_) (fun c98 => ?_)
                · refine X.iload (i := 6) rfl dX6_how_106 (pc' := 108) rfl ?_
                  refine X.istore (i := 6) (ls' := [some (rf m), some (vi f), some (vi u), some (vi s), some (vi (a + 1)), some (vi x5), some (vi l), some (vi 0), some (vi k), some (vi fi)]) (hd := dX6_how_108) (by decide) rfl rfl (pc' := 110) rfl ?_
                  refine X.iinc (i := 8) (ls' := [some (rf m), some (vi f), some (vi u), some (vi s), some (vi (a + 1)), some (vi x5), some (vi l), some (vi 0), some (vi (k + 1)), some (vi fi)]) dX6_how_110 rfl (by decide) rfl rfl (pc' := 113) rfl ?_
                  refine X.goto (tgt := 15) dX6_how_113 (by decide) ?_
                  refine X.mask (bs := [true, true, true, true, true, true, true, true, true, false]) (ls' := [some (rf m), some (vi f), some (vi u), some (vi s), some (vi (a + 1)), some (vi x5), some (vi l), some (vi 0), some (vi (k + 1)), none]) rfl ?_
                  refine ih15 (a + 1) x5 l 0 (k + 1) (by omega) ?_
                  obtain ⟨g2, g3, g4, g5⟩ := hwF_in (A := A) (f := f) (m := u) (s := s) hk0 ⟨by omega, by omega⟩
                  rw [g2, g3, g4, g5, ← ha, ← hc, ← hl, ← ho, ← hfi]
                  refine ⟨by omega, by omega, by omega, ?_, ?_, ?_, by omega⟩ <;> (try split) <;> omega
                · refine X.iload (i := 9) rfl dX6_how_101 (pc' := 103) rfl ?_
                  refine X.goto (tgt := 108) dX6_how_103 (by decide) ?_
                  refine X.istore (i := 6) (ls' := [some (rf m), some (vi f), some (vi u), some (vi s), some (vi (a + 1)), some (vi x5), some (vi fi), some (vi 0), some (vi k), some (vi fi)]) (hd := dX6_how_108) (by decide) rfl rfl (pc' := 110) rfl ?_
                  refine X.iinc (i := 8) (ls' := [some (rf m), some (vi f), some (vi u), some (vi s), some (vi (a + 1)), some (vi x5), some (vi fi), some (vi 0), some (vi (k + 1)), some (vi fi)]) dX6_how_110 rfl (by decide) rfl rfl (pc' := 113) rfl ?_
                  refine X.goto (tgt := 15) dX6_how_113 (by decide) ?_
                  refine X.mask (bs := [true, true, true, true, true, true, true, true, true, false]) (ls' := [some (rf m), some (vi f), some (vi u), some (vi s), some (vi (a + 1)), some (vi x5), some (vi fi), some (vi 0), some (vi (k + 1)), none]) rfl ?_
                  refine ih15 (a + 1) x5 fi 0 (k + 1) (by omega) ?_
                  obtain ⟨g2, g3, g4, g5⟩ := hwF_in (A := A) (f := f) (m := u) (s := s) hk0 ⟨by omega, by omega⟩
                  rw [g2, g3, g4, g5, ← ha, ← hc, ← hl, ← ho, ← hfi]
                  refine ⟨by omega, by omega, by omega, ?_, ?_, ?_, by omega⟩ <;> (try split) <;> omega
              · refine X.iload (i := 9) rfl dX6_how_80 (pc' := 82) rfl ?_
                refine X.iload (i := 6) rfl dX6_how_82 (pc' := 84) rfl ?_
                refine X.icmp_le (tgt := 91) dX6_how_84 ⟨by omega, by omega⟩ ⟨by omega, by omega⟩ (by decide) (pc' := 87) rfl (fun c84 => ?_) (fun c84 => ?_)
                · refine X.iconst dX6_how_91 (pc' := 92) rfl ?_
                  refine X.istore (i := 7) (ls' := [some (rf m), some (vi f), some (vi u), some (vi s), some (vi (a + 1)), some (vi x5), some (vi l), some (vi 0), some (vi k), some (vi fi)]) (hd := dX6_how_92) (by decide) rfl rfl (pc' := 94) rfl ?_
                  refine X.iload (i := 9) rfl dX6_how_94 (pc' := 96) rfl ?_
                  refine X.iload (i := 6) rfl dX6_how_96 (pc' := 98) rfl ?_
                  refine X.icmp_le (tgt := 106) dX6_how_98 ⟨by omega, by omega⟩ ⟨by omega, by omega⟩ (by decide) (pc' := 101) rfl (fun c98 => ?_) (fun c98 => ?_)
                  · refine X.iload (i := 6) rfl dX6_how_106 (pc' := 108) rfl ?_
                    refine X.istore (i := 6) (ls' := [some (rf m), some (vi f), some (vi u), some (vi s), some (vi (a + 1)), some (vi x5), some (vi l), some (vi 0), some (vi k), some (vi fi)]) (hd := dX6_how_108) (by decide) rfl rfl (pc' := 110) rfl ?_
                    refine X.iinc (i := 8) (ls' := [some (rf m), some (vi f), some (vi u), some (vi s), some (vi (a + 1)), some (vi x5), some (vi l), some (vi 0), some (vi (k + 1)), some (vi fi)]) dX6_how_110 rfl (by decide) rfl rfl (pc' := 113) rfl ?_
                    refine X.goto (tgt := 15) dX6_how_113 (by decide) ?_
                    refine X.mask (bs := [true, true, true, true, true, true, true, true, true, false]) (ls' := [some (rf m), some (vi f), some (vi u), some (vi s), some (vi (a + 1)), some (vi x5), some (vi l), some (vi 0), some (vi (k + 1)), none]) rfl ?_
                    refine ih15 (a + 1) x5 l 0 (k + 1) (by omega) ?_
                    obtain ⟨g2, g3, g4, g5⟩ := hwF_in (A := A) (f := f) (m := u) (s := s) hk0 ⟨by omega, by omega⟩
                    rw [g2, g3, g4, g5, ← ha, ← hc, ← hl, ← ho, ← hfi]
                    refine ⟨by omega, by omega, by omega, ?_, ?_, ?_, by omega⟩ <;> (try split) <;> omega
                  · refine X.iload (i := 9) rfl dX6_how_101 (pc' := 103) rfl ?_
                    refine X.goto (tgt := 108) dX6_how_103 (by decide) ?_
                    refine X.istore (i := 6) (ls' := [some (rf m), some (vi f), some (vi u), some (vi s), some (vi (a + 1)), some (vi x5), some (vi fi), some (vi 0), some (vi k), some (vi fi)]) (hd := dX6_how_108) (by decide) rfl rfl (pc' := 110) rfl ?_
                    refine X.iinc (i := 8) (ls' := [some (rf m), some (vi f), some (vi u), some (vi s), some (vi (a + 1)), some (vi x5), some (vi fi), some (vi 0), some (vi (k + 1)), some (vi fi)]) dX6_how_110 rfl (by decide) rfl rfl (pc' := 113) rfl ?_
                    refine X.goto (tgt := 15) dX6_how_113 (by decide) ?_
                    refine X.mask (bs := [true, true, true, true, true, true, true, true, true, false]) (ls' := [some (rf m), some (vi f), some (vi u), some (vi s), some (vi (a + 1)), some (vi x5), some (vi fi), some (vi 0), some (vi (k + 1)), none]) rfl ?_
                    refine ih15 (a + 1) x5 fi 0 (k + 1) (by omega) ?_
                    obtain ⟨g2, g3, g4, g5⟩ := hwF_in (A := A) (f := f) (m := u) (s := s) hk0 ⟨by omega, by omega⟩
                    rw [g2, g3, g4, g5, ← ha, ← hc, ← hl, ← ho, ← hfi]
                    refine ⟨by omega, by omega, by omega, ?_, ?_, ?_, by omega⟩ <;> (try split) <;> omega
                · refine X.iconst dX6_how_87 (pc' := 88) rfl ?_
                  refine X.goto (tgt := 92) dX6_how_88 (by decide) ?_
                  refine X.istore (i := 7) (ls' := [some (rf m), some (vi f), some (vi u), some (vi s), some (vi (a + 1)), some (vi x5), some (vi l), some (vi 1), some (vi k), some (vi fi)]) (hd := dX6_how_92) (by decide) rfl rfl (pc' := 94) rfl ?_
                  refine X.iload (i := 9) rfl dX6_how_94 (pc' := 96) rfl ?_
                  refine X.iload (i := 6) rfl dX6_how_96 (pc' := 98) rfl ?_
                  refine X.icmp_le (tgt := 106) dX6_how_98 ⟨by omega, by omega⟩ ⟨by omega, by omega⟩ (by decide) (pc' := 101) rfl (fun c98 => ?_) (fun c98 => ?_)
                  · refine X.iload (i := 6) rfl dX6_how_106 (pc' := 108) rfl ?_
                    refine X.istore (i := 6) (ls' := [some (rf m), some (vi f), some (vi u), some (vi s), some (vi (a + 1)), some (vi x5), some (vi l), some (vi 1), some (vi k), some (vi fi)]) (hd := dX6_how_108) (by decide) rfl rfl (pc' := 110) rfl ?_
                    refine X.iinc (i := 8) (ls' := [some (rf m), some (vi f), some (vi u), some (vi s), some (vi (a + 1)), some (vi x5), some (vi l), some (vi 1), some (vi (k + 1)), some (vi fi)]) dX6_how_110 rfl (by decide) rfl rfl (pc' := 113) rfl ?_
                    refine X.goto (tgt := 15) dX6_how_113 (by decide) ?_
                    refine X.mask (bs := [true, true, true, true, true, true, true, true, true, false]) (ls' := [some (rf m), some (vi f), some (vi u), some (vi s), some (vi (a + 1)), some (vi x5), some (vi l), some (vi 1), some (vi (k + 1)), none]) rfl ?_
                    refine ih15 (a + 1) x5 l 1 (k + 1) (by omega) ?_
                    obtain ⟨g2, g3, g4, g5⟩ := hwF_in (A := A) (f := f) (m := u) (s := s) hk0 ⟨by omega, by omega⟩
                    rw [g2, g3, g4, g5, ← ha, ← hc, ← hl, ← ho, ← hfi]
                    refine ⟨by omega, by omega, by omega, ?_, ?_, ?_, by omega⟩ <;> (try split) <;> omega
                  · refine X.iload (i := 9) rfl dX6_how_101 (pc' := 103) rfl ?_
                    refine X.goto (tgt := 108) dX6_how_103 (by decide) ?_
                    refine X.istore (i := 6) (ls' := [some (rf m), some (vi f), some (vi u), some (vi s), some (vi (a + 1)), some (vi x5), some (vi fi), some (vi 1), some (vi k), some (vi fi)]) (hd := dX6_how_108) (by decide) rfl rfl (pc' := 110) rfl ?_
                    refine X.iinc (i := 8) (ls' := [some (rf m), some (vi f), some (vi u), some (vi s), some (vi (a + 1)), some (vi x5), some (vi fi), some (vi 1), some (vi (k + 1)), some (vi fi)]) dX6_how_110 rfl (by decide) rfl rfl (pc' := 113) rfl ?_
                    refine X.goto (tgt := 15) dX6_how_113 (by decide) ?_
                    refine X.mask (bs := [true, true, true, true, true, true, true, true, true, false]) (ls' := [some (rf m), some (vi f), some (vi u), some (vi s), some (vi (a + 1)), some (vi x5), some (vi fi), some (vi 1), some (vi (k + 1)), none]) rfl ?_
                    refine ih15 (a + 1) x5 fi 1 (k + 1) (by omega) ?_
                    obtain ⟨g2, g3, g4, g5⟩ := hwF_in (A := A) (f := f) (m := u) (s := s) hk0 ⟨by omega, by omega⟩
                    rw [g2, g3, g4, g5, ← ha, ← hc, ← hl, ← ho, ← hfi]
                    refine ⟨by omega, by omega, by omega, ?_, ?_, ?_, by omega⟩ <;> (try split) <;> omega
            · refine X.iconst dX6_how_67 (pc' := 68) rfl ?_
              refine X.goto (tgt := 72) dX6_how_68 (by decide) ?_
              refine X.iadd dX6_how_72 (pc' := 73) rfl ?_
              refine X.gen (fun x6 hx6 => ?_)
              refine X.istore (i := 5) (ls' := [some (rf m), some (vi f), some (vi u), some (vi s), some (vi (a + 1)), some (vi x6), some (vi l), some (vi o), some (vi k), some (vi fi)]) (hd := dX6_how_73) (by decide) rfl rfl (pc' := 75) rfl ?_
              refine X.iload (i := 7) rfl dX6_how_75 (pc' := 77) rfl ?_
              refine X.if_eq (tgt := 91) dX6_how_77 ⟨by omega, by omega⟩ (by decide) (pc' := 80) rfl (fun c77 => ?_) (fun c77 => ?_)
              · refine X.iconst dX6_how_91 (pc' := 92) rfl ?_
                refine X.istore (i := 7) (ls' := [some (rf m), some (vi f), some (vi u), some (vi s), some (vi (a + 1)), some (vi x6), some (vi l), some (vi 0), some (vi k), some (vi fi)]) (hd := dX6_how_92) (by decide) rfl rfl (pc' := 94) rfl ?_
                refine X.iload (i := 9) rfl dX6_how_94 (pc' := 96) rfl ?_
                refine X.iload (i := 6) rfl dX6_how_96 (pc' := 98) rfl ?_
                refine X.icmp_le (tgt := 106) dX6_how_98 ⟨by omega, by omega⟩ ⟨by omega, by omega⟩ (by decide) (pc' := 101) rfl (fun c98 => ?_) (fun c98 => ?_)
                · refine X.iload (i := 6) rfl dX6_how_106 (pc' := 108) rfl ?_
                  refine X.istore (i := 6) (ls' := [some (rf m), some (vi f), some (vi u), some (vi s), some (vi (a + 1)), some (vi x6), some (vi l), some (vi 0), some (vi k), some (vi fi)]) (hd := dX6_how_108) (by decide) rfl rfl (pc' := 110) rfl ?_
                  refine X.iinc (i := 8) (ls' := [some (rf m), some (vi f), some (vi u), some (vi s), some (vi (a + 1)), some (vi x6), some (vi l), some (vi 0), some (vi (k + 1)), some (vi fi)]) dX6_how_110 rfl (by decide) rfl rfl (pc' := 113) rfl ?_
                  refine X.goto (tgt := 15) dX6_how_113 (by decide) ?_
                  refine X.mask (bs := [true, true, true, true, true, true, true, true, true, false]) (ls' := [some (rf m), some (vi f), some (vi u), some (vi s), some (vi (a + 1)), some (vi x6), some (vi l), some (vi 0), some (vi (k + 1)), none]) rfl ?_
                  refine ih15 (a + 1) x6 l 0 (k + 1) (by omega) ?_
                  obtain ⟨g2, g3, g4, g5⟩ := hwF_in (A := A) (f := f) (m := u) (s := s) hk0 ⟨by omega, by omega⟩
                  rw [g2, g3, g4, g5, ← ha, ← hc, ← hl, ← ho, ← hfi]
                  refine ⟨by omega, by omega, by omega, ?_, ?_, ?_, by omega⟩ <;> (try split) <;> omega
                · refine X.iload (i := 9) rfl dX6_how_101 (pc' := 103) rfl ?_
                  refine X.goto (tgt := 108) dX6_how_103 (by decide) ?_
                  refine X.istore (i := 6) (ls' := [some (rf m), some (vi f), some (vi u), some (vi s), some (vi (a + 1)), some (vi x6), some (vi fi), some (vi 0), some (vi k), some (vi fi)]) (hd := dX6_how_108) (by decide) rfl rfl (pc' := 110) rfl ?_
                  refine X.iinc (i := 8) (ls' := [some (rf m), some (vi f), some (vi u), some (vi s), some (vi (a + 1)), some (vi x6), some (vi fi), some (vi 0), some (vi (k + 1)), some (vi fi)]) dX6_how_110 rfl (by decide) rfl rfl (pc' := 113) rfl ?_
                  refine X.goto (tgt := 15) dX6_how_113 (by decide) ?_
                  refine X.mask (bs := [true, true, true, true, true, true, true, true, true, false]) (ls' := [some (rf m), some (vi f), some (vi u), some (vi s), some (vi (a + 1)), some (vi x6), some (vi fi), some (vi 0), some (vi (k + 1)), none]) rfl ?_
                  refine ih15 (a + 1) x6 fi 0 (k + 1) (by omega) ?_
                  obtain ⟨g2, g3, g4, g5⟩ := hwF_in (A := A) (f := f) (m := u) (s := s) hk0 ⟨by omega, by omega⟩
                  rw [g2, g3, g4, g5, ← ha, ← hc, ← hl, ← ho, ← hfi]
                  refine ⟨by omega, by omega, by omega, ?_, ?_, ?_, by omega⟩ <;> (try split) <;> omega
              · refine X.iload (i := 9) rfl dX6_how_80 (pc' := 82) rfl ?_
                refine X.iload (i := 6) rfl dX6_how_82 (pc' := 84) rfl ?_
                refine X.icmp_le (tgt := 91) dX6_how_84 ⟨by omega, by omega⟩ ⟨by omega, by omega⟩ (by decide) (pc' := 87) rfl (fun c84 => ?_) (fun c84 => ?_)
                · refine X.iconst dX6_how_91 (pc' := 92) rfl ?_
                  refine X.istore (i := 7) (ls' := [some (rf m), some (vi f), some (vi u), some (vi s), some (vi (a + 1)), some (vi x6), some (vi l), some (vi 0), some (vi k), some (vi fi)]) (hd := dX6_how_92) (by decide) rfl rfl (pc' := 94) rfl ?_
                  refine X.iload (i := 9) rfl dX6_how_94 (pc' := 96) rfl ?_
                  refine X.iload (i := 6) rfl dX6_how_96 (pc' := 98) rfl ?_
                  refine X.icmp_le (tgt := 106) dX6_how_98 ⟨by omega, by omega⟩ ⟨by omega, by omega⟩ (by decide) (pc' := 101) rfl (fun c98 => ?_) (fun c98 => ?_)
                  · refine X.iload (i := 6) rfl dX6_how_106 (pc' := 108) rfl ?_
                    refine X.istore (i := 6) (ls' := [some (rf m), some (vi f), some (vi u), some (vi s), some (vi (a + 1)), some (vi x6), some (vi l), some (vi 0), some (vi k), some (vi fi)]) (hd := dX6_how_108) (by decide) rfl rfl (pc' := 110) rfl ?_
                    refine X.iinc (i := 8) (ls' := [some (rf m), some (vi f), some (vi u), some (vi s), some (vi (a + 1)), some (vi x6), some (vi l), some (vi 0), some (vi (k + 1)), some (vi fi)]) dX6_how_110 rfl (by decide) rfl rfl (pc' := 113) rfl ?_
                    refine X.goto (tgt := 15) dX6_how_113 (by decide) ?_
                    refine X.mask (bs := [true, true, true, true, true, true, true, true, true, false]) (ls' := [some (rf m), some (vi f), some (vi u), some (vi s), some (vi (a + 1)), some (vi x6), some (vi l), some (vi 0), some (vi (k + 1)), none]) rfl ?_
                    refine ih15 (a + 1) x6 l 0 (k + 1) (by omega) ?_
                    obtain ⟨g2, g3, g4, g5⟩ := hwF_in (A := A) (f := f) (m := u) (s := s) hk0 ⟨by omega, by omega⟩
                    rw [g2, g3, g4, g5, ← ha, ← hc, ← hl, ← ho, ← hfi]
                    refine ⟨by omega, by omega, by omega, ?_, ?_, ?_, by omega⟩ <;> (try split) <;> omega
                  · refine X.iload (i := 9) rfl dX6_how_101 (pc' := 103) rfl ?_
                    refine X.goto (tgt := 108) dX6_how_103 (by decide) ?_
                    refine X.istore (i := 6) (ls' := [some (rf m), some (vi f), some (vi u), some (vi s), some (vi (a + 1)), some (vi x6), some (vi fi), some (vi 0), some (vi k), some (vi fi)]) (hd := dX6_how_108) (by decide) rfl rfl (pc' := 110) rfl ?_
                    refine X.iinc (i := 8) (ls' := [some (rf m), some (vi f), some (vi u), some (vi s), some (vi (a + 1)), some (vi x6), some (vi fi), some (vi 0), some (vi (k + 1)), some (vi fi)]) dX6_how_110 rfl (by decide) rfl rfl (pc' := 113) rfl ?_
                    refine X.goto (tgt := 15) dX6_how_113 (by decide) ?_
                    refine X.mask (bs := [true, true, true, true, true, true, true, true, true, false]) (ls' := [some (rf m), some (vi f), some (vi u), some (vi s), some (vi (a + 1)), some (vi x6), some (vi fi), some (vi 0), some (vi (k + 1)), none]) rfl ?_
                    refine ih15 (a + 1) x6 fi 0 (k + 1) (by omega) ?_
                    obtain ⟨g2, g3, g4, g5⟩ := hwF_in (A := A) (f := f) (m := u) (s := s) hk0 ⟨by omega, by omega⟩
                    rw [g2, g3, g4, g5, ← ha, ← hc, ← hl, ← ho, ← hfi]
                    refine ⟨by omega, by omega, by omega, ?_, ?_, ?_, by omega⟩ <;> (try split) <;> omega
                · refine X.iconst dX6_how_87 (pc' := 88) rfl ?_
                  refine X.goto (tgt := 92) dX6_how_88 (by decide) ?_
                  refine X.istore (i := 7) (ls' := [some (rf m), some (vi f), some (vi u), some (vi s), some (vi (a + 1)), some (vi x6), some (vi l), some (vi 1), some (vi k), some (vi fi)]) (hd := dX6_how_92) (by decide) rfl rfl (pc' := 94) rfl ?_
                  refine X.iload (i := 9) rfl dX6_how_94 (pc' := 96) rfl ?_
                  refine X.iload (i := 6) rfl dX6_how_96 (pc' := 98) rfl ?_
                  refine X.icmp_le (tgt := 106) dX6_how_98 ⟨by omega, by omega⟩ ⟨by omega, by omega⟩ (by decide) (pc' := 101) rfl (fun c98 => ?_) (fun c98 => ?_)
                  · refine X.iload (i := 6) rfl dX6_how_106 (pc' := 108) rfl ?_
                    refine X.istore (i := 6) (ls' := [some (rf m), some (vi f), some (vi u), some (vi s), some (vi (a + 1)), some (vi x6), some (vi l), some (vi 1), some (vi k), some (vi fi)]) (hd := dX6_how_108) (by decide) rfl rfl (pc' := 110) rfl ?_
                    refine X.iinc (i := 8) (ls' := [some (rf m), some (vi f), some (vi u), some (vi s), some (vi (a + 1)), some (vi x6), some (vi l), some (vi 1), some (vi (k + 1)), some (vi fi)]) dX6_how_110 rfl (by decide) rfl rfl (pc' := 113) rfl ?_
                    refine X.goto (tgt := 15) dX6_how_113 (by decide) ?_
                    refine X.mask (bs := [true, true, true, true, true, true, true, true, true, false]) (ls' := [some (rf m), some (vi f), some (vi u), some (vi s), some (vi (a + 1)), some (vi x6), some (vi l), some (vi 1), some (vi (k + 1)), none]) rfl ?_
                    refine ih15 (a + 1) x6 l 1 (k + 1) (by omega) ?_
                    obtain ⟨g2, g3, g4, g5⟩ := hwF_in (A := A) (f := f) (m := u) (s := s) hk0 ⟨by omega, by omega⟩
                    rw [g2, g3, g4, g5, ← ha, ← hc, ← hl, ← ho, ← hfi]
                    refine ⟨by omega, by omega, by omega, ?_, ?_, ?_, by omega⟩ <;> (try split) <;> omega
                  · refine X.iload (i := 9) rfl dX6_how_101 (pc' := 103) rfl ?_
                    refine X.goto (tgt := 108) dX6_how_103 (by decide) ?_
                    refine X.istore (i := 6) (ls' := [some (rf m), some (vi f), some (vi u), some (vi s), some (vi (a + 1)), some (vi x6), some (vi fi), some (vi 1), some (vi k), some (vi fi)]) (hd := dX6_how_108) (by decide) rfl rfl (pc' := 110) rfl ?_
                    refine X.iinc (i := 8) (ls' := [some (rf m), some (vi f), some (vi u), some (vi s), some (vi (a + 1)), some (vi x6), some (vi fi), some (vi 1), some (vi (k + 1)), some (vi fi)]) dX6_how_110 rfl (by decide) rfl rfl (pc' := 113) rfl ?_
                    refine X.goto (tgt := 15) dX6_how_113 (by decide) ?_
                    refine X.mask (bs := [true, true, true, true, true, true, true, true, true, false]) (ls' := [some (rf m), some (vi f), some (vi u), some (vi s), some (vi (a + 1)), some (vi x6), some (vi fi), some (vi 1), some (vi (k + 1)), none]) rfl ?_
                    refine ih15 (a + 1) x6 fi 1 (k + 1) (by omega) ?_
                    obtain ⟨g2, g3, g4, g5⟩ := hwF_in (A := A) (f := f) (m := u) (s := s) hk0 ⟨by omega, by omega⟩
                    rw [g2, g3, g4, g5, ← ha, ← hc, ← hl, ← ho, ← hfi]
                    refine ⟨by omega, by omega, by omega, ?_, ?_, ?_, by omega⟩ <;> (try split) <;> omega
  refine L15 _ 0 0 ((-1)) 1 0 (Nat.lt_succ_self _) ?_
  exact ⟨by omega, by omega, rfl, rfl, rfl, rfl, by omega⟩
set_option maxHeartbeats 4000000 in
set_option maxRecDepth 100000 in
theorem k_X6_wordsHeardBy {Ω : xO} {h : xM} {m : Nat} {A : aS} {x : Int} (hS : MoS h m) (hM : RM h (m + 1) 0 A) (hA : aOK A) (hx : 0 ≤ x ∧ x ≤ 63) : xCt Ω yX6_wordsHeardBy cX6_wordsHeardBy 4 (some .int) rm_X6_wordsHeardBy [rf m, vi x] h (fun q h' => h = h' ∧ ∃ r, q = some (vi r) ∧ r = mWd A x) xNo := by
  refine xCt_of (ini := false) (by decide +kernel) (Nat.le_of_ble_eq_true rfl) (fun q => absurd q (by decide)) ?_
  generalize hPR : (fun q h' => h = h' ∧ ∃ r, q = some (vi r) ∧ r = mWd A x : Option xV → xM → Prop) = PR
  have K0 : X Ω RX6 cX6_wordsHeardBy 4 (some .int) false rm_X6_wordsHeardBy PR xNo 0 0 0 [some (rf m), some (vi x), none, none] [] h := ?_
  exact K0
  obtain ⟨mSt, mB, mW, mWl, mWo, mCo, nHe⟩ := id hM
  obtain ⟨okB, okN, okWl, okS, okW, okM, okC, okH⟩ := id hA
  refine X.iconst dX6_wordsHeardBy_0 (pc' := 1) rfl ?_
  refine X.istore_n (i := 2) (ls' := [some (rf m), some (vi x), some (vi 0), none]) (hi := rfl) (hd := dX6_wordsHeardBy_1) (by decide) rfl rfl (pc' := 2) rfl ?_
  refine X.iconst dX6_wordsHeardBy_2 (pc' := 3) rfl ?_
  refine X.istore_n (i := 3) (ls' := [some (rf m), some (vi x), some (vi 0), some (vi 0)]) (hi := rfl) (hd := dX6_wordsHeardBy_3) (by decide) rfl rfl (pc' := 4) rfl ?_
  have L4 : ∀ (n4 : Nat) (c : Int) (k : Int), (aW A - k).toNat < n4 → (0 ≤ k ∧ k ≤ aW A ∧ c = cnt (fun n => mHe A n = x) (fun _ => inferInstance) k.toNat) → X Ω RX6 cX6_wordsHeardBy 4 (some .int) false rm_X6_wordsHeardBy PR xNo 0 0 4 [some (rf m), some (vi x), some (vi c), some (vi k)] [] h := by
    intro n4
    induction n4 with
    | zero => intro c k hm _; exfalso; omega
    | succ n4 ih4 =>
      intro c k hm4 hinv
      obtain ⟨hk0, hkn, hc⟩ := hinv
      refine X.iload_n (i := 3) rfl rfl dX6_wordsHeardBy_4 (pc' := 5) rfl ?_
      refine X.aload_n (i := 0) rfl rfl dX6_wordsHeardBy_5 (pc' := 6) rfl ?_
      refine X.getR fk_X6_8 xcl_6 dX6_wordsHeardBy_6 hS.1 hS.2.1 (pc' := 9) rfl ?_
      refine X.iconst dX6_wordsHeardBy_9 (pc' := 10) rfl ?_
      refine X.iald (x := aW A) dX6_wordsHeardBy_10 hS.2.2.1 (by omega) (by omega) ⟨by omega, by omega⟩ (mI_at mW (by omega)) (pc' := 11) rfl (fun r1 => ?_)
      obtain ⟨r1a, r1b⟩ := r1
      refine X.icmp_ge (tgt := 37) dX6_wordsHeardBy_11 ⟨by omega, by omega⟩ ⟨by omega, by omega⟩ (by decide) (pc' := 14) rfl (fun c11 => ?_) (fun c11 => ?_)
      · refine X.iload_n (i := 2) rfl rfl dX6_wordsHeardBy_37 (pc' := 38) rfl ?_
        refine X.iret dX6_wordsHeardBy_38 (Or.inl rfl) (Nat.le_of_ble_eq_true rfl) (Nat.le_of_ble_eq_true rfl) ?_
        subst hPR
        have e : k = aW A := by omega
        subst e
        exact ⟨rfl, _, rfl, hc⟩
      · refine X.iload_n (i := 2) rfl rfl dX6_wordsHeardBy_14 (pc' := 15) rfl ?_
        refine X.aload_n (i := 0) rfl rfl dX6_wordsHeardBy_15 (pc' := 16) rfl ?_
        refine X.iload_n (i := 3) rfl rfl dX6_wordsHeardBy_16 (pc' := 17) rfl ?_
        refine X.callV (ci := 6) (a := m) (rm := rm_X6_hearers) (As := [vi k]) (st := [vi c]) dX6_wordsHeardBy_17 ck_X6_126 rfl (by decide) hS.1 rfl rfl ⟨Nat.le_of_ble_eq_true rfl, Nat.le_of_ble_eq_true rfl⟩ (Nat.le_of_ble_eq_true rfl) (Nat.le_of_ble_eq_true rfl) (Nat.le_of_ble_eq_true rfl) (pc' := 20) rfl (k_X6_hearers hS hM hA ⟨by omega, by omega⟩) (fun q2 hq2 eq2 => ?_) (fun _ _ x1 => x1.elim)
        obtain ⟨rfl, y, rfl, hy⟩ := eq2
        have hyr : 0 ≤ mHe A k ∧ mHe A k < 2 ^ 6 := mkF_rng _ _ 6
        refine X.iload_n (i := 1) rfl rfl dX6_wordsHeardBy_20 (pc' := 21) rfl ?_
        refine X.icmp_ne (tgt := 28) dX6_wordsHeardBy_21 ⟨by omega, by omega⟩ ⟨by omega, by omega⟩ (by decide) (pc' := 24) rfl (fun c21 => ?_) (fun c21 => ?_)
        · refine X.iconst dX6_wordsHeardBy_28 (pc' := 29) rfl ?_
          refine X.iadd dX6_wordsHeardBy_29 (pc' := 30) rfl ?_
          refine X.gen (fun c2 hc2 => ?_)
          refine X.istore_n (i := 2) (ls' := [some (rf m), some (vi x), some (vi c2), some (vi k)]) (hi := rfl) (hd := dX6_wordsHeardBy_30) (by decide) rfl rfl (pc' := 31) rfl ?_
          refine X.iinc (i := 3) (ls' := [some (rf m), some (vi x), some (vi c2), some (vi (k + 1))]) dX6_wordsHeardBy_31 rfl (by decide) rfl rfl (pc' := 34) rfl ?_
          refine X.goto (tgt := 4) dX6_wordsHeardBy_34 (by decide) ?_
          refine ih4 c2 (k + 1) (by omega) ?_
          exact ⟨by omega, by omega, by rw [hc2, Int.add_zero]; exact cnt_out hc hk0 (by (try dsimp only); omega)⟩
        · refine X.iconst dX6_wordsHeardBy_24 (pc' := 25) rfl ?_
          refine X.goto (tgt := 29) dX6_wordsHeardBy_25 (by decide) ?_
          refine X.iadd dX6_wordsHeardBy_29 (pc' := 30) rfl ?_
          refine X.gen (fun c2 hc2 => ?_)
          refine X.istore_n (i := 2) (ls' := [some (rf m), some (vi x), some (vi c2), some (vi k)]) (hi := rfl) (hd := dX6_wordsHeardBy_30) (by decide) rfl rfl (pc' := 31) rfl ?_
          refine X.iinc (i := 3) (ls' := [some (rf m), some (vi x), some (vi c2), some (vi (k + 1))]) dX6_wordsHeardBy_31 rfl (by decide) rfl rfl (pc' := 34) rfl ?_
          refine X.goto (tgt := 4) dX6_wordsHeardBy_34 (by decide) ?_
          refine ih4 c2 (k + 1) (by omega) ?_
          exact ⟨by omega, by omega, by rw [hc2]; exact cnt_in hc hk0 (by (try dsimp only); omega)⟩
  refine L4 _ 0 0 (Nat.lt_succ_self _) ?_
  exact ⟨by omega, by omega, rfl⟩
set_option maxHeartbeats 4000000 in
set_option maxRecDepth 100000 in
theorem k_X6_messages {Ω : xO} {h : xM} {m : Nat} {A : aS} (hS : MoS h m) (hM : RM h (m + 1) 0 A) (hA : aOK A) : xCt Ω yX6_messages cX6_messages 6 (some .int) rm_X6_messages [rf m, vi 0] h (fun q h' => h = h' ∧ ∃ r, q = some (vi r) ∧ r = mMs A) xNo := by
  refine xCt_of (ini := false) (by decide +kernel) (Nat.le_of_ble_eq_true rfl) (fun q => absurd q (by decide)) ?_
  generalize hPR : (fun q h' => h = h' ∧ ∃ r, q = some (vi r) ∧ r = mMs A : Option xV → xM → Prop) = PR
  have K0 : X Ω RX6 cX6_messages 6 (some .int) false rm_X6_messages PR xNo 0 0 0 [some (rf m), some (vi 0), none, none, none, none] [] h := ?_
  exact K0
  obtain ⟨mSt, mB, mW, mWl, mWo, mCo, mHe⟩ := id hM
  obtain ⟨okB, okN, okWl, okS, okW, okM, okC, okH⟩ := id hA
  refine X.iconst dX6_messages_0 (pc' := 1) rfl ?_
  refine X.istore_n (i := 2) (ls' := [some (rf m), some (vi 0), some (vi 0), none, none, none]) (hi := rfl) (hd := dX6_messages_1) (by decide) rfl rfl (pc' := 2) rfl ?_
  refine X.iconst dX6_messages_2 (pc' := 3) rfl ?_
  refine X.istore_n (i := 3) (ls' := [some (rf m), some (vi 0), some (vi 0), some (vi 0), none, none]) (hi := rfl) (hd := dX6_messages_3) (by decide) rfl rfl (pc' := 4) rfl ?_
  have L4 : ∀ (n4 : Nat) (c : Int) (k : Int), (60 - k).toNat < n4 → (0 ≤ k ∧ k ≤ 60 ∧ c = cnt (fun p => 0 < msg A p) (fun _ => inferInstance) k.toNat) → X Ω RX6 cX6_messages 6 (some .int) false rm_X6_messages PR xNo 0 0 4 [some (rf m), some (vi 0), some (vi c), some (vi k), none, none] [] h := by
    intro n4
    induction n4 with
    | zero => intro c k hm _; exfalso; omega
    | succ n4 ih4 =>
      intro c k hm4 hinv
      obtain ⟨hk0, hkn, hc⟩ := hinv
      refine X.iload_n (i := 3) rfl rfl dX6_messages_4 (pc' := 5) rfl ?_
      refine X.bipush (by decide +kernel) dX6_messages_5 (pc' := 7) rfl ?_
      refine X.icmp_ge (tgt := 103) dX6_messages_7 ⟨by omega, by omega⟩ ⟨by omega, by omega⟩ (by decide) (pc' := 10) rfl (fun c7 => ?_) (fun c7 => ?_)
      · refine X.iload_n (i := 2) rfl rfl dX6_messages_103 (pc' := 104) rfl ?_
        refine X.iret dX6_messages_104 (Or.inl rfl) (Nat.le_of_ble_eq_true rfl) (Nat.le_of_ble_eq_true rfl) ?_
        subst hPR
        have e : k = 60 := by omega
        subst e
        exact ⟨rfl, _, rfl, hc⟩
      · refine X.aload_n (i := 0) rfl rfl dX6_messages_10 (pc' := 11) rfl ?_
        refine X.iload_n (i := 3) rfl rfl dX6_messages_11 (pc' := 12) rfl ?_
        refine X.bipush (by decide +kernel) dX6_messages_12 (pc' := 14) rfl ?_
        refine X.idiv ⟨by omega, by omega⟩ (by omega) ⟨by omega, by omega⟩ (by omega) dX6_messages_14 (pc' := 15) rfl ?_
        refine X.iload_n (i := 3) rfl rfl dX6_messages_15 (pc' := 16) rfl ?_
        refine X.bipush (by decide +kernel) dX6_messages_16 (pc' := 18) rfl ?_
        refine X.irem ⟨by omega, by omega⟩ (by omega) ⟨by omega, by omega⟩ (by omega) dX6_messages_18 (pc' := 19) rfl ?_
        refine X.iconst dX6_messages_19 (pc' := 20) rfl ?_
        refine X.callV (ci := 6) (a := m) (rm := rm_X6_how) (As := [vi (k / 10), vi (k % 10), vi 0]) (st := []) dX6_messages_20 ck_X6_157 rfl (by decide) hS.1 rfl rfl ⟨Nat.le_of_ble_eq_true rfl, Nat.le_of_ble_eq_true rfl⟩ (Nat.le_of_ble_eq_true rfl) (Nat.le_of_ble_eq_true rfl) (Nat.le_of_ble_eq_true rfl) (pc' := 23) rfl (k_X6_how hS hM hA ⟨by omega, by omega⟩ ⟨by omega, by omega⟩ ⟨by omega, by omega⟩) (fun q1 hq1 eq1 => ?_) (fun _ _ x1 => x1.elim)
        obtain ⟨rfl, x, rfl, hx⟩ := eq1
        have hmk := msg_how hA (k := k) (s := 0) ⟨by omega, by omega⟩
        have hxr := how_rng A (k / 10) (k % 10) 0
        refine X.iconst dX6_messages_23 (pc' := 24) rfl ?_
        refine X.icmp_eq (tgt := 31) dX6_messages_24 ⟨by omega, by omega⟩ ⟨by omega, by omega⟩ (by decide) (pc' := 27) rfl (fun c24 => ?_) (fun c24 => ?_)
        · refine X.iconst dX6_messages_31 (pc' := 32) rfl ?_
          refine X.istore (i := 4) (ls' := [some (rf m), some (vi 0), some (vi c), some (vi k), some (vi 0), none]) (hd := dX6_messages_32) (by decide) rfl rfl (pc' := 34) rfl ?_
          refine X.iconst dX6_messages_34 (pc' := 35) rfl ?_
          refine X.istore (i := 5) (ls' := [some (rf m), some (vi 0), some (vi c), some (vi k), some (vi 0), some (vi 0)]) (hd := dX6_messages_35) (by decide) rfl rfl (pc' := 37) rfl ?_
          refine X.iload (i := 5) rfl dX6_messages_37 (pc' := 39) rfl ?_
          refine X.bipush (by decide +kernel) dX6_messages_39 (pc' := 41) rfl ?_
          refine X.icmp_ge (tgt := 84) dX6_messages_41 ⟨by omega, by omega⟩ ⟨by omega, by omega⟩ (by decide) (pc' := 44) rfl (fun c41 => by exfalso; omega) (fun c41 => ?_)
          refine X.iload (i := 4) rfl dX6_messages_44 (pc' := 46) rfl ?_
          refine X.if_eq (tgt := 84) dX6_messages_46 ⟨by omega, by omega⟩ (by decide) (pc' := 49) rfl (fun c46 => ?_) (fun c46 => by exfalso; omega)
          refine X.iload_n (i := 2) rfl rfl dX6_messages_84 (pc' := 85) rfl ?_
          refine X.iload (i := 4) rfl dX6_messages_85 (pc' := 87) rfl ?_
          refine X.if_eq (tgt := 94) dX6_messages_87 ⟨by omega, by omega⟩ (by decide) (pc' := 90) rfl (fun c87 => ?_) (fun c87 => by exfalso; omega)
          refine X.iconst dX6_messages_94 (pc' := 95) rfl ?_
          refine X.iadd dX6_messages_95 (pc' := 96) rfl ?_
          refine X.gen (fun c2 hc2 => ?_)
          refine X.istore_n (i := 2) (ls' := [some (rf m), some (vi 0), some (vi c2), some (vi k), some (vi 0), some (vi 0)]) (hi := rfl) (hd := dX6_messages_96) (by decide) rfl rfl (pc' := 97) rfl ?_
          refine X.iinc (i := 3) (ls' := [some (rf m), some (vi 0), some (vi c2), some (vi (k + 1)), some (vi 0), some (vi 0)]) dX6_messages_97 rfl (by decide) rfl rfl (pc' := 100) rfl ?_
          refine X.goto (tgt := 4) dX6_messages_100 (by decide) ?_
          refine X.mask (bs := [true, true, true, true, false, false]) (ls' := [some (rf m), some (vi 0), some (vi c2), some (vi (k + 1)), none, none]) rfl ?_
          refine ih4 c2 (k + 1) (by omega) ?_
          exact ⟨by omega, by omega, by rw [hc2, Int.add_zero]; exact cnt_out hc hk0 (by (try dsimp only); omega)⟩
        · refine X.iconst dX6_messages_27 (pc' := 28) rfl ?_
          refine X.goto (tgt := 32) dX6_messages_28 (by decide) ?_
          refine X.istore (i := 4) (ls' := [some (rf m), some (vi 0), some (vi c), some (vi k), some (vi 1), none]) (hd := dX6_messages_32) (by decide) rfl rfl (pc' := 34) rfl ?_
          refine X.iconst dX6_messages_34 (pc' := 35) rfl ?_
          refine X.istore (i := 5) (ls' := [some (rf m), some (vi 0), some (vi c), some (vi k), some (vi 1), some (vi 0)]) (hd := dX6_messages_35) (by decide) rfl rfl (pc' := 37) rfl ?_
          refine X.iload (i := 5) rfl dX6_messages_37 (pc' := 39) rfl ?_
          refine X.bipush (by decide +kernel) dX6_messages_39 (pc' := 41) rfl ?_
          refine X.icmp_ge (tgt := 84) dX6_messages_41 ⟨by omega, by omega⟩ ⟨by omega, by omega⟩ (by decide) (pc' := 44) rfl (fun c41 => by exfalso; omega) (fun c41 => ?_)
          refine X.iload (i := 4) rfl dX6_messages_44 (pc' := 46) rfl ?_
          refine X.if_eq (tgt := 84) dX6_messages_46 ⟨by omega, by omega⟩ (by decide) (pc' := 49) rfl (fun c46 => by exfalso; omega) (fun c46 => ?_)
          refine X.iload_n (i := 1) rfl rfl dX6_messages_49 (pc' := 50) rfl ?_
          refine X.if_eq (tgt := 84) dX6_messages_50 ⟨by omega, by omega⟩ (by decide) (pc' := 53) rfl (fun c50 => ?_) (fun c50 => by exfalso; omega)
          refine X.iload_n (i := 2) rfl rfl dX6_messages_84 (pc' := 85) rfl ?_
          refine X.iload (i := 4) rfl dX6_messages_85 (pc' := 87) rfl ?_
          refine X.if_eq (tgt := 94) dX6_messages_87 ⟨by omega, by omega⟩ (by decide) (pc' := 90) rfl (fun c87 => by exfalso; omega) (fun c87 => ?_)
          refine X.iconst dX6_messages_90 (pc' := 91) rfl ?_
          refine X.goto (tgt := 95) dX6_messages_91 (by decide) ?_
          refine X.iadd dX6_messages_95 (pc' := 96) rfl ?_
          refine X.gen (fun c2 hc2 => ?_)
          refine X.istore_n (i := 2) (ls' := [some (rf m), some (vi 0), some (vi c2), some (vi k), some (vi 1), some (vi 0)]) (hi := rfl) (hd := dX6_messages_96) (by decide) rfl rfl (pc' := 97) rfl ?_
          refine X.iinc (i := 3) (ls' := [some (rf m), some (vi 0), some (vi c2), some (vi (k + 1)), some (vi 1), some (vi 0)]) dX6_messages_97 rfl (by decide) rfl rfl (pc' := 100) rfl ?_
          refine X.goto (tgt := 4) dX6_messages_100 (by decide) ?_
          refine X.mask (bs := [true, true, true, true, false, false]) (ls' := [some (rf m), some (vi 0), some (vi c2), some (vi (k + 1)), none, none]) rfl ?_
          refine ih4 c2 (k + 1) (by omega) ?_
          exact ⟨by omega, by omega, by rw [hc2]; exact cnt_in hc hk0 (by (try dsimp only); omega)⟩
  refine L4 _ 0 0 (Nat.lt_succ_self _) ?_
  exact ⟨by omega, by omega, rfl⟩
set_option maxHeartbeats 4000000 in
set_option maxRecDepth 100000 in
theorem k_X6_messages1 {Ω : xO} {h : xM} {m : Nat} {A : aS} (hS : MoS h m) (hM : RM h (m + 1) 0 A) (hA : aOK A) : xCt Ω yX6_messages cX6_messages 6 (some .int) rm_X6_messages [rf m, vi 1] h (fun q h' => h = h' ∧ ∃ r, q = some (vi r) ∧ r = mWh A) xNo := by
  refine xCt_of (ini := false) (by decide +kernel) (Nat.le_of_ble_eq_true rfl) (fun q => absurd q (by decide)) ?_
  generalize hPR : (fun q h' => h = h' ∧ ∃ r, q = some (vi r) ∧ r = mWh A : Option xV → xM → Prop) = PR
  have K0 : X Ω RX6 cX6_messages 6 (some .int) false rm_X6_messages PR xNo 0 0 0 [some (rf m), some (vi 1), none, none, none, none] [] h := ?_
  exact K0
  obtain ⟨mSt, mB, mW, mWl, mWo, mCo, mHe⟩ := id hM
  obtain ⟨okB, okN, okWl, okS, okW, okM, okC, okH⟩ := id hA
  refine X.iconst dX6_messages_0 (pc' := 1) rfl ?_
  refine X.istore_n (i := 2) (ls' := [some (rf m), some (vi 1), some (vi 0), none, none, none]) (hi := rfl) (hd := dX6_messages_1) (by decide) rfl rfl (pc' := 2) rfl ?_
  refine X.iconst dX6_messages_2 (pc' := 3) rfl ?_
  refine X.istore_n (i := 3) (ls' := [some (rf m), some (vi 1), some (vi 0), some (vi 0), none, none]) (hi := rfl) (hd := dX6_messages_3) (by decide) rfl rfl (pc' := 4) rfl ?_
  have L4 : ∀ (n4 : Nat) (c : Int) (k : Int), (60 - k).toNat < n4 → (0 ≤ k ∧ k ≤ 60 ∧ c = cnt (fun p => allH A (p / 10) (p % 10)) (fun p => allHd A (p / 10) (p % 10)) k.toNat) → X Ω RX6 cX6_messages 6 (some .int) false rm_X6_messages PR xNo 0 0 4 [some (rf m), some (vi 1), some (vi c), some (vi k), none, none] [] h := by
    intro n4
    induction n4 with
    | zero => intro c k hm _; exfalso; omega
    | succ n4 ih4 =>
      intro c k hm4 hinv
      obtain ⟨hk0, hkn, hc⟩ := hinv
      refine X.iload_n (i := 3) rfl rfl dX6_messages_4 (pc' := 5) rfl ?_
      refine X.bipush (by decide +kernel) dX6_messages_5 (pc' := 7) rfl ?_
      refine X.icmp_ge (tgt := 103) dX6_messages_7 ⟨by omega, by omega⟩ ⟨by omega, by omega⟩ (by decide) (pc' := 10) rfl (fun c7 => ?_) (fun c7 => ?_)
      · refine X.iload_n (i := 2) rfl rfl dX6_messages_103 (pc' := 104) rfl ?_
        refine X.iret dX6_messages_104 (Or.inl rfl) (Nat.le_of_ble_eq_true rfl) (Nat.le_of_ble_eq_true rfl) ?_
        subst hPR
        have e : k = 60 := by omega
        subst e
        exact ⟨rfl, _, rfl, hc⟩
      · refine X.aload_n (i := 0) rfl rfl dX6_messages_10 (pc' := 11) rfl ?_
        refine X.iload_n (i := 3) rfl rfl dX6_messages_11 (pc' := 12) rfl ?_
        refine X.bipush (by decide +kernel) dX6_messages_12 (pc' := 14) rfl ?_
        refine X.idiv ⟨by omega, by omega⟩ (by omega) ⟨by omega, by omega⟩ (by omega) dX6_messages_14 (pc' := 15) rfl ?_
        refine X.iload_n (i := 3) rfl rfl dX6_messages_15 (pc' := 16) rfl ?_
        refine X.bipush (by decide +kernel) dX6_messages_16 (pc' := 18) rfl ?_
        refine X.irem ⟨by omega, by omega⟩ (by omega) ⟨by omega, by omega⟩ (by omega) dX6_messages_18 (pc' := 19) rfl ?_
        refine X.iconst dX6_messages_19 (pc' := 20) rfl ?_
        refine X.callV (ci := 6) (a := m) (rm := rm_X6_how) (As := [vi (k / 10), vi (k % 10), vi 0]) (st := []) dX6_messages_20 ck_X6_157 rfl (by decide) hS.1 rfl rfl ⟨Nat.le_of_ble_eq_true rfl, Nat.le_of_ble_eq_true rfl⟩ (Nat.le_of_ble_eq_true rfl) (Nat.le_of_ble_eq_true rfl) (Nat.le_of_ble_eq_true rfl) (pc' := 23) rfl (k_X6_how hS hM hA ⟨by omega, by omega⟩ ⟨by omega, by omega⟩ ⟨by omega, by omega⟩) (fun q1 hq1 eq1 => ?_) (fun _ _ x1 => x1.elim)
        obtain ⟨rfl, x, rfl, hx⟩ := eq1
        have hxr := how_rng A (k / 10) (k % 10) 0
        refine X.iconst dX6_messages_23 (pc' := 24) rfl ?_
        refine X.icmp_eq (tgt := 31) dX6_messages_24 ⟨by omega, by omega⟩ ⟨by omega, by omega⟩ (by decide) (pc' := 27) rfl (fun c24 => ?_) (fun c24 => ?_)
        · refine X.iconst dX6_messages_31 (pc' := 32) rfl ?_
          refine X.istore (i := 4) (ls' := [some (rf m), some (vi 1), some (vi c), some (vi k), some (vi 0), none]) (hd := dX6_messages_32) (by decide) rfl rfl (pc' := 34) rfl ?_
          refine X.iconst dX6_messages_34 (pc' := 35) rfl ?_
          refine X.istore (i := 5) (ls' := [some (rf m), some (vi 1), some (vi c), some (vi k), some (vi 0), some (vi 0)]) (hd := dX6_messages_35) (by decide) rfl rfl (pc' := 37) rfl ?_
          have L37 : ∀ (n37 : Nat) (i : Int) (t : Int), (6 - t).toNat < n37 → (0 ≤ t ∧ t ≤ 6 ∧ ((i = 1 ∧ ∀ q, 0 ≤ q → q < t → how A (k / 10) (k % 10) q = 3) ∨ (i = 0 ∧ ¬ allH A (k / 10) (k % 10)))) → X Ω RX6 cX6_messages 6 (some .int) false rm_X6_messages PR xNo 0 0 37 [some (rf m), some (vi 1), some (vi c), some (vi k), some (vi i), some (vi t)] [] h := by
            intro n37
            induction n37 with
            | zero => intro i t hm _; exfalso; omega
            | succ n37 ih37 =>
              intro i t hm37 hinv
              obtain ⟨ht0, ht6, hi⟩ := hinv
              have hi01 : i = 0 ∨ i = 1 := by rcases hi with z | z <;> omega
              refine X.iload (i := 5) rfl dX6_messages_37 (pc' := 39) rfl ?_
              refine X.bipush (by decide +kernel) dX6_messages_39 (pc' := 41) rfl ?_
              refine X.icmp_ge (tgt := 84) dX6_messages_41 ⟨by omega, by omega⟩ ⟨by omega, by omega⟩ (by decide) (pc' := 44) rfl (fun c41 => ?_) (fun c41 => ?_)
              · refine X.iload_n (i := 2) rfl rfl dX6_messages_84 (pc' := 85) rfl ?_
                refine X.iload (i := 4) rfl dX6_messages_85 (pc' := 87) rfl ?_
                refine X.if_eq (tgt := 94) dX6_messages_87 ⟨by omega, by omega⟩ (by decide) (pc' := 90) rfl (fun c87 => ?_) (fun c87 => ?_)
                · refine X.iconst dX6_messages_94 (pc' := 95) rfl ?_
                  refine X.iadd dX6_messages_95 (pc' := 96) rfl ?_
                  refine X.gen (fun c2 hc2 => ?_)
                  refine X.istore_n (i := 2) (ls' := [some (rf m), some (vi 1), some (vi c2), some (vi k), some (vi i), some (vi t)]) (hi := rfl) (hd := dX6_messages_96) (by decide) rfl rfl (pc' := 97) rfl ?_
                  refine X.iinc (i := 3) (ls' := [some (rf m), some (vi 1), some (vi c2), some (vi (k + 1)), some (vi i), some (vi t)]) dX6_messages_97 rfl (by decide) rfl rfl (pc' := 100) rfl ?_
                  refine X.goto (tgt := 4) dX6_messages_100 (by decide) ?_
                  refine X.mask (bs := [true, true, true, true, false, false]) (ls' := [some (rf m), some (vi 1), some (vi c2), some (vi (k + 1)), none, none]) rfl ?_
                  refine ih4 c2 (k + 1) (by omega) ?_
                  refine ⟨by omega, by omega, ?_⟩
                  rw [hc2, Int.add_zero]
                  exact cnt_out hc hk0 (by (try dsimp only); rcases hi with z | z; omega; exact z.2)
                · refine X.iconst dX6_messages_90 (pc' := 91) rfl ?_
                  refine X.goto (tgt := 95) dX6_messages_91 (by decide) ?_
                  refine X.iadd dX6_messages_95 (pc' := 96) rfl ?_
                  refine X.gen (fun c2 hc2 => ?_)
                  refine X.istore_n (i := 2) (ls' := [some (rf m), some (vi 1), some (vi c2), some (vi k), some (vi i), some (vi t)]) (hi := rfl) (hd := dX6_messages_96) (by decide) rfl rfl (pc' := 97) rfl ?_
                  refine X.iinc (i := 3) (ls' := [some (rf m), some (vi 1), some (vi c2), some (vi (k + 1)), some (vi i), some (vi t)]) dX6_messages_97 rfl (by decide) rfl rfl (pc' := 100) rfl ?_
                  refine X.goto (tgt := 4) dX6_messages_100 (by decide) ?_
                  refine X.mask (bs := [true, true, true, true, false, false]) (ls' := [some (rf m), some (vi 1), some (vi c2), some (vi (k + 1)), none, none]) rfl ?_
                  refine ih4 c2 (k + 1) (by omega) ?_
                  refine ⟨by omega, by omega, ?_⟩
                  rw [hc2]
                  exact cnt_in hc hk0 (by (try dsimp only); first | exact allH_of (by omega) (by rcases hi with z | z; exact z.2; omega) | omega)
              · refine X.iload (i := 4) rfl dX6_messages_44 (pc' := 46) rfl ?_
                refine X.if_eq (tgt := 84) dX6_messages_46 ⟨by omega, by omega⟩ (by decide) (pc' := 49) rfl (fun c46 => ?_) (fun c46 => ?_)
                · refine X.iload_n (i := 2) rfl rfl dX6_messages_84 (pc' := 85) rfl ?_
                  refine X.iload (i := 4) rfl dX6_messages_85 (pc' := 87) rfl ?_
                  refine X.if_eq (tgt := 94) dX6_messages_87 ⟨by omega, by omega⟩ (by decide) (pc' := 90) rfl (fun c87 => ?_) (fun c87 => ?_)
                  · refine X.iconst dX6_messages_94 (pc' := 95) rfl ?_
                    refine X.iadd dX6_messages_95 (pc' := 96) rfl ?_
                    refine X.gen (fun c2 hc2 => ?_)
                    refine X.istore_n (i := 2) (ls' := [some (rf m), some (vi 1), some (vi c2), some (vi k), some (vi i), some (vi t)]) (hi := rfl) (hd := dX6_messages_96) (by decide) rfl rfl (pc' := 97) rfl ?_
                    refine X.iinc (i := 3) (ls' := [some (rf m), some (vi 1), some (vi c2), some (vi (k + 1)), some (vi i), some (vi t)]) dX6_messages_97 rfl (by decide) rfl rfl (pc' := 100) rfl ?_
                    refine X.goto (tgt := 4) dX6_messages_100 (by decide) ?_
                    refine X.mask (bs := [true, true, true, true, false, false]) (ls' := [some (rf m), some (vi 1), some (vi c2), some (vi (k + 1)), none, none]) rfl ?_
                    refine ih4 c2 (k + 1) (by omega) ?_
                    refine ⟨by omega, by omega, ?_⟩
                    rw [hc2, Int.add_zero]
                    exact cnt_out hc hk0 (by (try dsimp only); rcases hi with z | z; omega; exact z.2)
                  · refine X.iconst dX6_messages_90 (pc' := 91) rfl ?_
                    refine X.goto (tgt := 95) dX6_messages_91 (by decide) ?_
                    refine X.iadd dX6_messages_95 (pc' := 96) rfl ?_
                    refine X.gen (fun c2 hc2 => ?_)
                    refine X.istore_n (i := 2) (ls' := [some (rf m), some (vi 1), some (vi c2), some (vi k), some (vi i), some (vi t)]) (hi := rfl) (hd := dX6_messages_96) (by decide) rfl rfl (pc' := 97) rfl ?_
                    refine X.iinc (i := 3) (ls' := [some (rf m), some (vi 1), some (vi c2), some (vi (k + 1)), some (vi i), some (vi t)]) dX6_messages_97 rfl (by decide) rfl rfl (pc' := 100) rfl ?_
                    refine X.goto (tgt := 4) dX6_messages_100 (by decide) ?_
                    refine X.mask (bs := [true, true, true, true, false, false]) (ls' := [some (rf m), some (vi 1), some (vi c2), some (vi (k + 1)), none, none]) rfl ?_
                    refine ih4 c2 (k + 1) (by omega) ?_
                    refine ⟨by omega, by omega, ?_⟩
                    rw [hc2]
                    exact cnt_in hc hk0 (by (try dsimp only); first | exact allH_of (by omega) (by rcases hi with z | z; exact z.2; omega) | omega)
                · refine X.iload_n (i := 1) rfl rfl dX6_messages_49 (pc' := 50) rfl ?_
                  refine X.if_eq (tgt := 84) dX6_messages_50 ⟨by omega, by omega⟩ (by decide) (pc' := 53) rfl (fun c50 => by exfalso; omega) (fun c50 => ?_)
                  refine X.aload_n (i := 0) rfl rfl dX6_messages_53 (pc' := 54) rfl ?_
                  refine X.iload_n (i := 3) rfl rfl dX6_messages_54 (pc' := 55) rfl ?_
                  refine X.bipush (by decide +kernel) dX6_messages_55 (pc' := 57) rfl ?_
                  refine X.idiv ⟨by omega, by omega⟩ (by omega) ⟨by omega, by omega⟩ (by omega) dX6_messages_57 (pc' := 58) rfl ?_
                  refine X.iload_n (i := 3) rfl rfl dX6_messages_58 (pc' := 59) rfl ?_
                  refine X.bipush (by decide +kernel) dX6_messages_59 (pc' := 61) rfl ?_
                  refine X.irem ⟨by omega, by omega⟩ (by omega) ⟨by omega, by omega⟩ (by omega) dX6_messages_61 (pc' := 62) rfl ?_
                  refine X.iload (i := 5) rfl dX6_messages_62 (pc' := 64) rfl ?_
                  refine X.callV (ci := 6) (a := m) (rm := rm_X6_how) (As := [vi (k / 10), vi (k % 10), vi t]) (st := []) dX6_messages_64 ck_X6_157 rfl (by decide) hS.1 rfl rfl ⟨Nat.le_of_ble_eq_true rfl, Nat.le_of_ble_eq_true rfl⟩ (Nat.le_of_ble_eq_true rfl) (Nat.le_of_ble_eq_true rfl) (Nat.le_of_ble_eq_true rfl) (pc' := 67) rfl (k_X6_how hS hM hA ⟨by omega, by omega⟩ ⟨by omega, by omega⟩ ⟨by omega, by omega⟩) (fun q2 hq2 eq2 => ?_) (fun _ _ x1 => x1.elim)
                  obtain ⟨rfl, y, rfl, hy⟩ := eq2
                  have hyr := how_rng A (k / 10) (k % 10) t
                  refine X.iconst dX6_messages_67 (pc' := 68) rfl ?_
                  refine X.icmp_ne (tgt := 75) dX6_messages_68 ⟨by omega, by omega⟩ ⟨by omega, by omega⟩ (by decide) (pc' := 71) rfl (fun c68 => ?_) (fun c68 => ?_)
                  · refine X.iconst dX6_messages_75 (pc' := 76) rfl ?_
                    refine X.istore (i := 4) (ls' := [some (rf m), some (vi 1), some (vi c), some (vi k), some (vi 0), some (vi t)]) (hd := dX6_messages_76) (by decide) rfl rfl (pc' := 78) rfl ?_
                    refine X.iinc (i := 5) (ls' := [some (rf m), some (vi 1), some (vi c), some (vi k), some (vi 0), some (vi (t + 1))]) dX6_messages_78 rfl (by decide) rfl rfl (pc' := 81) rfl ?_
                    refine X.goto (tgt := 37) dX6_messages_81 (by decide) ?_
                    refine ih37 0 (t + 1) (by omega) ?_
                    exact ⟨by omega, by omega, Or.inr ⟨rfl, fun z => by have := allH_at z ht0 (by omega); omega⟩⟩
                  · refine X.iconst dX6_messages_71 (pc' := 72) rfl ?_
                    refine X.goto (tgt := 76) dX6_messages_72 (by decide) ?_
                    refine X.istore (i := 4) (ls' := [some (rf m), some (vi 1), some (vi c), some (vi k), some (vi 1), some (vi t)]) (hd := dX6_messages_76) (by decide) rfl rfl (pc' := 78) rfl ?_
                    refine X.iinc (i := 5) (ls' := [some (rf m), some (vi 1), some (vi c), some (vi k), some (vi 1), some (vi (t + 1))]) dX6_messages_78 rfl (by decide) rfl rfl (pc' := 81) rfl ?_
                    refine X.goto (tgt := 37) dX6_messages_81 (by decide) ?_
                    refine ih37 1 (t + 1) (by omega) ?_
                    refine ⟨by omega, by omega, Or.inl ⟨rfl, fun q z1 z2 => ?_⟩⟩
                    rcases hi with z | z
                    · by_cases e : q = t
                      · subst e; omega
                      · exact z.2 q z1 (by omega)
                    · omega
          refine L37 _ 0 0 (Nat.lt_succ_self _) ?_
          exact ⟨by omega, by omega, Or.inr ⟨rfl, fun z => by have := allH_at z (show (0 : Int) ≤ 0 by decide) (by decide); omega⟩⟩
        · refine X.iconst dX6_messages_27 (pc' := 28) rfl ?_
          refine X.goto (tgt := 32) dX6_messages_28 (by decide) ?_
          refine X.istore (i := 4) (ls' := [some (rf m), some (vi 1), some (vi c), some (vi k), some (vi 1), none]) (hd := dX6_messages_32) (by decide) rfl rfl (pc' := 34) rfl ?_
          refine X.iconst dX6_messages_34 (pc' := 35) rfl ?_
          refine X.istore (i := 5) (ls' := [some (rf m), some (vi 1), some (vi c), some (vi k), some (vi 1), some (vi 0)]) (hd := dX6_messages_35) (by decide) rfl rfl (pc' := 37) rfl ?_
          have L37 : ∀ (n37 : Nat) (i : Int) (t : Int), (6 - t).toNat < n37 → (0 ≤ t ∧ t ≤ 6 ∧ ((i = 1 ∧ ∀ q, 0 ≤ q → q < t → how A (k / 10) (k % 10) q = 3) ∨ (i = 0 ∧ ¬ allH A (k / 10) (k % 10)))) → X Ω RX6 cX6_messages 6 (some .int) false rm_X6_messages PR xNo 0 0 37 [some (rf m), some (vi 1), some (vi c), some (vi k), some (vi i), some (vi t)] [] h := by
            intro n37
            induction n37 with
            | zero => intro i t hm _; exfalso; omega
            | succ n37 ih37 =>
              intro i t hm37 hinv
              obtain ⟨ht0, ht6, hi⟩ := hinv
              have hi01 : i = 0 ∨ i = 1 := by rcases hi with z | z <;> omega
              refine X.iload (i := 5) rfl dX6_messages_37 (pc' := 39) rfl ?_
              refine X.bipush (by decide +kernel) dX6_messages_39 (pc' := 41) rfl ?_
              refine X.icmp_ge (tgt := 84) dX6_messages_41 ⟨by omega, by omega⟩ ⟨by omega, by omega⟩ (by decide) (pc' := 44) rfl (fun c41 => ?_) (fun c41 => ?_)
              · refine X.iload_n (i := 2) rfl rfl dX6_messages_84 (pc' := 85) rfl ?_
                refine X.iload (i := 4) rfl dX6_messages_85 (pc' := 87) rfl ?_
                refine X.if_eq (tgt := 94) dX6_messages_87 ⟨by omega, by omega⟩ (by decide) (pc' := 90) rfl (fun c87 => ?_) (fun c87 => ?_)
                · refine X.iconst dX6_messages_94 (pc' := 95) rfl ?_
                  refine X.iadd dX6_messages_95 (pc' := 96) rfl ?_
                  refine X.gen (fun c2 hc2 => ?_)
                  refine X.istore_n (i := 2) (ls' := [some (rf m), some (vi 1), some (vi c2), some (vi k), some (vi i), some (vi t)]) (hi := rfl) (hd := dX6_messages_96) (by decide) rfl rfl (pc' := 97) rfl ?_
                  refine X.iinc (i := 3) (ls' := [some (rf m), some (vi 1), some (vi c2), some (vi (k + 1)), some (vi i), some (vi t)]) dX6_messages_97 rfl (by decide) rfl rfl (pc' := 100) rfl ?_
                  refine X.goto (tgt := 4) dX6_messages_100 (by decide) ?_
                  refine X.mask (bs := [true, true, true, true, false, false]) (ls' := [some (rf m), some (vi 1), some (vi c2), some (vi (k + 1)), none, none]) rfl ?_
                  refine ih4 c2 (k + 1) (by omega) ?_
                  refine ⟨by omega, by omega, ?_⟩
                  rw [hc2, Int.add_zero]
                  exact cnt_out hc hk0 (by (try dsimp only); rcases hi with z | z; omega; exact z.2)
                · refine X.iconst dX6_messages_90 (pc' := 91) rfl ?_
                  refine X.goto (tgt := 95) dX6_messages_91 (by decide) ?_
                  refine X.iadd dX6_messages_95 (pc' := 96) rfl ?_
                  refine X.gen (fun c2 hc2 => ?_)
                  refine X.istore_n (i := 2) (ls' := [some (rf m), some (vi 1), some (vi c2), some (vi k), some (vi i), some (vi t)]) (hi := rfl) (hd := dX6_messages_96) (by decide) rfl rfl (pc' := 97) rfl ?_
                  refine X.iinc (i := 3) (ls' := [some (rf m), some (vi 1), some (vi c2), some (vi (k + 1)), some (vi i), some (vi t)]) dX6_messages_97 rfl (by decide) rfl rfl (pc' := 100) rfl ?_
                  refine X.goto (tgt := 4) dX6_messages_100 (by decide) ?_
                  refine X.mask (bs := [true, true, true, true, false, false]) (ls' := [some (rf m), some (vi 1), some (vi c2), some (vi (k + 1)), none, none]) rfl ?_
                  refine ih4 c2 (k + 1) (by omega) ?_
                  refine ⟨by omega, by omega, ?_⟩
                  rw [hc2]
                  exact cnt_in hc hk0 (by (try dsimp only); first | exact allH_of (by omega) (by rcases hi with z | z; exact z.2; omega) | omega)
              · refine X.iload (i := 4) rfl dX6_messages_44 (pc' := 46) rfl ?_
                refine X.if_eq (tgt := 84) dX6_messages_46 ⟨by omega, by omega⟩ (by decide) (pc' := 49) rfl (fun c46 => ?_) (fun c46 => ?_)
                · refine X.iload_n (i := 2) rfl rfl dX6_messages_84 (pc' := 85) rfl ?_
                  refine X.iload (i := 4) rfl dX6_messages_85 (pc' := 87) rfl ?_
                  refine X.if_eq (tgt := 94) dX6_messages_87 ⟨by omega, by omega⟩ (by decide) (pc' := 90) rfl (fun c87 => ?_) (fun c87 => ?_)
                  · refine X.iconst dX6_messages_94 (pc' := 95) rfl ?_
                    refine X.iadd dX6_messages_95 (pc' := 96) rfl ?_
                    refine X.gen (fun c2 hc2 => ?_)
                    refine X.istore_n (i := 2) (ls' := [some (rf m), some (vi 1), some (vi c2), some (vi k), some (vi i), some (vi t)]) (hi := rfl) (hd := dX6_messages_96) (by decide) rfl rfl (pc' := 97) rfl ?_
                    refine X.iinc (i := 3) (ls' := [some (rf m), some (vi 1), some (vi c2), some (vi (k + 1)), some (vi i), some (vi t)]) dX6_messages_97 rfl (by decide) rfl rfl (pc' := 100) rfl ?_
                    refine X.goto (tgt := 4) dX6_messages_100 (by decide) ?_
                    refine X.mask (bs := [true, true, true, true, false, false]) (ls' := [some (rf m), some (vi 1), some (vi c2), some (vi (k + 1)), none, none]) rfl ?_
                    refine ih4 c2 (k + 1) (by omega) ?_
                    refine ⟨by omega, by omega, ?_⟩
                    rw [hc2, Int.add_zero]
                    exact cnt_out hc hk0 (by (try dsimp only); rcases hi with z | z; omega; exact z.2)
                  · refine X.iconst dX6_messages_90 (pc' := 91) rfl ?_
                    refine X.goto (tgt := 95) dX6_messages_91 (by decide) ?_
                    refine X.iadd dX6_messages_95 (pc' := 96) rfl ?_
                    refine X.gen (fun c2 hc2 => ?_)
                    refine X.istore_n (i := 2) (ls' := [some (rf m), some (vi 1), some (vi c2), some (vi k), some (vi i), some (vi t)]) (hi := rfl) (hd := dX6_messages_96) (by decide) rfl rfl (pc' := 97) rfl ?_
                    refine X.iinc (i := 3) (ls' := [some (rf m), some (vi 1), some (vi c2), some (vi (k + 1)), some (vi i), some (vi t)]) dX6_messages_97 rfl (by decide) rfl rfl (pc' := 100) rfl ?_
                    refine X.goto (tgt := 4) dX6_messages_100 (by decide) ?_
                    refine X.mask (bs := [true, true, true, true, false, false]) (ls' := [some (rf m), some (vi 1), some (vi c2), some (vi (k + 1)), none, none]) rfl ?_
                    refine ih4 c2 (k + 1) (by omega) ?_
                    refine ⟨by omega, by omega, ?_⟩
                    rw [hc2]
                    exact cnt_in hc hk0 (by (try dsimp only); first | exact allH_of (by omega) (by rcases hi with z | z; exact z.2; omega) | omega)
                · refine X.iload_n (i := 1) rfl rfl dX6_messages_49 (pc' := 50) rfl ?_
                  refine X.if_eq (tgt := 84) dX6_messages_50 ⟨by omega, by omega⟩ (by decide) (pc' := 53) rfl (fun c50 => by exfalso; omega) (fun c50 => ?_)
                  refine X.aload_n (i := 0) rfl rfl dX6_messages_53 (pc' := 54) rfl ?_
                  refine X.iload_n (i := 3) rfl rfl dX6_messages_54 (pc' := 55) rfl ?_
                  refine X.bipush (by decide +kernel) dX6_messages_55 (pc' := 57) rfl ?_
                  refine X.idiv ⟨by omega, by omega⟩ (by omega) ⟨by omega, by omega⟩ (by omega) dX6_messages_57 (pc' := 58) rfl ?_
                  refine X.iload_n (i := 3) rfl rfl dX6_messages_58 (pc' := 59) rfl ?_
                  refine X.bipush (by decide +kernel) dX6_messages_59 (pc' := 61) rfl ?_
                  refine X.irem ⟨by omega, by omega⟩ (by omega) ⟨by omega, by omega⟩ (by omega) dX6_messages_61 (pc' := 62) rfl ?_
                  refine X.iload (i := 5) rfl dX6_messages_62 (pc' := 64) rfl ?_
                  refine X.callV (ci := 6) (a := m) (rm := rm_X6_how) (As := [vi (k / 10), vi (k % 10), vi t]) (st := []) dX6_messages_64 ck_X6_157 rfl (by decide) hS.1 rfl rfl ⟨Nat.le_of_ble_eq_true rfl, Nat.le_of_ble_eq_true rfl⟩ (Nat.le_of_ble_eq_true rfl) (Nat.le_of_ble_eq_true rfl) (Nat.le_of_ble_eq_true rfl) (pc' := 67) rfl (k_X6_how hS hM hA ⟨by omega, by omega⟩ ⟨by omega, by omega⟩ ⟨by omega, by omega⟩) (fun q3 hq3 eq3 => ?_) (fun _ _ x1 => x1.elim)
                  obtain ⟨rfl, y, rfl, hy⟩ := eq3
                  have hyr := how_rng A (k / 10) (k % 10) t
                  refine X.iconst dX6_messages_67 (pc' := 68) rfl ?_
                  refine X.icmp_ne (tgt := 75) dX6_messages_68 ⟨by omega, by omega⟩ ⟨by omega, by omega⟩ (by decide) (pc' := 71) rfl (fun c68 => ?_) (fun c68 => ?_)
                  · refine X.iconst dX6_messages_75 (pc' := 76) rfl ?_
                    refine X.istore (i := 4) (ls' := [some (rf m), some (vi 1), some (vi c), some (vi k), some (vi 0), some (vi t)]) (hd := dX6_messages_76) (by decide) rfl rfl (pc' := 78) rfl ?_
                    refine X.iinc (i := 5) (ls' := [some (rf m), some (vi 1), some (vi c), some (vi k), some (vi 0), some (vi (t + 1))]) dX6_messages_78 rfl (by decide) rfl rfl (pc' := 81) rfl ?_
                    refine X.goto (tgt := 37) dX6_messages_81 (by decide) ?_
                    refine ih37 0 (t + 1) (by omega) ?_
                    exact ⟨by omega, by omega, Or.inr ⟨rfl, fun z => by have := allH_at z ht0 (by omega); omega⟩⟩
                  · refine X.iconst dX6_messages_71 (pc' := 72) rfl ?_
                    refine X.goto (tgt := 76) dX6_messages_72 (by decide) ?_
                    refine X.istore (i := 4) (ls' := [some (rf m), some (vi 1), some (vi c), some (vi k), some (vi 1), some (vi t)]) (hd := dX6_messages_76) (by decide) rfl rfl (pc' := 78) rfl ?_
                    refine X.iinc (i := 5) (ls' := [some (rf m), some (vi 1), some (vi c), some (vi k), some (vi 1), some (vi (t + 1))]) dX6_messages_78 rfl (by decide) rfl rfl (pc' := 81) rfl ?_
                    refine X.goto (tgt := 37) dX6_messages_81 (by decide) ?_
                    refine ih37 1 (t + 1) (by omega) ?_
                    refine ⟨by omega, by omega, Or.inl ⟨rfl, fun q z1 z2 => ?_⟩⟩
                    rcases hi with z | z
                    · by_cases e : q = t
                      · subst e; omega
                      · exact z.2 q z1 (by omega)
                    · omega
          refine L37 _ 1 0 (Nat.lt_succ_self _) ?_
          exact ⟨by omega, by omega, Or.inl ⟨rfl, fun q z1 z2 => by omega⟩⟩
  refine L4 _ 0 0 (Nat.lt_succ_self _) ?_
  exact ⟨by omega, by omega, rfl⟩
set_option maxHeartbeats 4000000 in
set_option maxRecDepth 100000 in
theorem k_X6_reason {Ω : xO} {h : xM} {m : Nat} {A : aS} {n s : Int} (hS : MoS h m) (hM : RM h (m + 1) 0 A) (hA : aOK A) (hn : 0 ≤ n ∧ n < 2147483648) (hs : 0 ≤ s ∧ s < 6) : xCt Ω yX6_reason cX6_reason 4 (some .int) rm_X6_reason [rf m, vi n, vi s] h (fun q h' => h = h' ∧ ∃ r, q = some (vi r) ∧ r = if n < aW A then why A n s else -1) xNo := by
  refine xCt_of (ini := false) (by decide +kernel) (Nat.le_of_ble_eq_true rfl) (fun q => absurd q (by decide)) ?_
  generalize hPR : (fun q h' => h = h' ∧ ∃ r, q = some (vi r) ∧ r = if n < aW A then why A n s else -1 : Option xV → xM → Prop) = PR
  have K0 : X Ω RX6 cX6_reason 4 (some .int) false rm_X6_reason PR xNo 0 0 0 [some (rf m), some (vi n), some (vi s), none] [] h := ?_
  exact K0
  obtain ⟨mSt, mB, mW, mWl, mWo, mCo, mHe⟩ := id hM
  obtain ⟨okB, okN, okWl, okS, okW, okM, okC, okH⟩ := id hA
  refine X.iload_n (i := 1) rfl rfl dX6_reason_0 (pc' := 1) rfl ?_
  refine X.aload_n (i := 0) rfl rfl dX6_reason_1 (pc' := 2) rfl ?_
  refine X.getR fk_X6_8 xcl_6 dX6_reason_2 hS.1 hS.2.1 (pc' := 5) rfl ?_
  refine X.iconst dX6_reason_5 (pc' := 6) rfl ?_
  refine X.iald (x := aW A) dX6_reason_6 hS.2.2.1 (by omega) (by omega) ⟨by omega, by omega⟩ (mI_at mW (by omega)) (pc' := 7) rfl (fun r1 => ?_)
  obtain ⟨r1a, r1b⟩ := r1
  refine X.icmp_lt (tgt := 12) dX6_reason_7 ⟨by omega, by omega⟩ ⟨by omega, by omega⟩ (by decide) (pc' := 10) rfl (fun c7 => ?_) (fun c7 => ?_)
  · refine X.aload_n (i := 0) rfl rfl dX6_reason_12 (pc' := 13) rfl ?_
    refine X.iload_n (i := 1) rfl rfl dX6_reason_13 (pc' := 14) rfl ?_
    refine X.iconst dX6_reason_14 (pc' := 15) rfl ?_
    refine X.iload_n (i := 2) rfl rfl dX6_reason_15 (pc' := 16) rfl ?_
    refine X.iadd dX6_reason_16 (pc' := 17) rfl ?_
    refine X.callV (ci := 6) (a := m) (rm := rm_X6_part) (As := [vi n, vi (4 + s)]) (st := []) dX6_reason_17 ck_X6_40 rfl (by decide) hS.1 rfl rfl ⟨Nat.le_of_ble_eq_true rfl, Nat.le_of_ble_eq_true rfl⟩ (Nat.le_of_ble_eq_true rfl) (Nat.le_of_ble_eq_true rfl) (Nat.le_of_ble_eq_true rfl) (pc' := 20) rfl (k_X6_part hS (by omega) (by omega)) (fun q2 hq2 eq2 => ?_) (fun _ _ x1 => x1.elim)
    obtain ⟨rfl, y, rfl, hy⟩ := eq2
    have hy2 : y = aCo A s n := by rw [hy]; exact mI_at (mCo s n (by omega) (by omega) (by omega) (by omega)) (by omega)
    have okc := okC s n (by omega) (by omega) (by omega) (by omega)
    have okn := okW n (by omega) (by omega)
    refine X.istore_n (i := 3) (ls' := [some (rf m), some (vi n), some (vi s), some (vi y)]) (hi := rfl) (hd := dX6_reason_20) (by decide) rfl rfl (pc' := 21) rfl ?_
    refine X.aload_n (i := 0) rfl rfl dX6_reason_21 (pc' := 22) rfl ?_
    refine X.iload_n (i := 1) rfl rfl dX6_reason_22 (pc' := 23) rfl ?_
    refine X.iload_n (i := 2) rfl rfl dX6_reason_23 (pc' := 24) rfl ?_
    refine X.callV (ci := 6) (a := m) (rm := rm_X6_firstHeard) (As := [vi n, vi s]) (st := []) dX6_reason_24 ck_X6_120 rfl (by decide) hS.1 rfl rfl ⟨Nat.le_of_ble_eq_true rfl, Nat.le_of_ble_eq_true rfl⟩ (Nat.le_of_ble_eq_true rfl) (Nat.le_of_ble_eq_true rfl) (Nat.le_of_ble_eq_true rfl) (pc' := 27) rfl (k_X6_firstHeard hS hM hA ⟨by omega, by omega⟩ hs) (fun q3 hq3 eq3 => ?_) (fun _ _ x1 => x1.elim)
    obtain ⟨rfl, z, rfl, hz⟩ := eq3
    have hfr := fh_rng hA s n (by omega) (by omega) (by omega) (by omega)
    refine X.if_lt (tgt := 34) dX6_reason_27 ⟨by omega, by omega⟩ (by decide) (pc' := 30) rfl (fun c27 => ?_) (fun c27 => ?_)
    · refine X.iload_n (i := 3) rfl rfl dX6_reason_34 (pc' := 35) rfl ?_
      refine X.if_ge (tgt := 42) dX6_reason_35 ⟨by omega, by omega⟩ (by decide) (pc' := 38) rfl (fun c35 => ?_) (fun c35 => ?_)
      · refine X.iload_n (i := 3) rfl rfl dX6_reason_42 (pc' := 43) rfl ?_
        refine X.aload_n (i := 0) rfl rfl dX6_reason_43 (pc' := 44) rfl ?_
        refine X.getR fk_X6_8 xcl_6 dX6_reason_44 hS.1 hS.2.1 (pc' := 47) rfl ?_
        refine X.iconst dX6_reason_47 (pc' := 48) rfl ?_
        refine X.iald (x := aB A) dX6_reason_48 hS.2.2.1 (by omega) (by omega) ⟨by omega, by omega⟩ (mI_at mB (by omega)) (pc' := 49) rfl (fun r4 => ?_)
        obtain ⟨r4a, r4b⟩ := r4
        refine X.icmp_lt (tgt := 56) dX6_reason_49 ⟨by omega, by omega⟩ ⟨by omega, by omega⟩ (by decide) (pc' := 52) rfl (fun c49 => ?_) (fun c49 => ?_)
        · refine X.iconst dX6_reason_56 (pc' := 57) rfl ?_
          refine X.iret dX6_reason_57 (Or.inl rfl) (Nat.le_of_ble_eq_true rfl) (Nat.le_of_ble_eq_true rfl) ?_
          subst hPR
          refine ⟨rfl, _, rfl, ?_⟩
          rw [if_pos (by omega)]
          unfold why
          rw [if_neg (by omega)]
          rw [if_neg (by omega)]
          rw [if_neg (by omega)]
        · refine X.iconst dX6_reason_52 (pc' := 53) rfl ?_
          refine X.goto (tgt := 57) dX6_reason_53 (by decide) ?_
          refine X.iret dX6_reason_57 (Or.inl rfl) (Nat.le_of_ble_eq_true rfl) (Nat.le_of_ble_eq_true rfl) ?_
          subst hPR
          refine ⟨rfl, _, rfl, ?_⟩
          rw [if_pos (by omega)]
          unfold why
          rw [if_neg (by omega)]
          rw [if_neg (by omega)]
          rw [if_pos (by omega)]
      · refine X.iconst dX6_reason_38 (pc' := 39) rfl ?_
        refine X.goto (tgt := 57) dX6_reason_39 (by decide) ?_
        refine X.iret dX6_reason_57 (Or.inl rfl) (Nat.le_of_ble_eq_true rfl) (Nat.le_of_ble_eq_true rfl) ?_
        subst hPR
        refine ⟨rfl, _, rfl, ?_⟩
        rw [if_pos (by omega)]
        unfold why
        rw [if_neg (by omega)]
        rw [if_pos (by omega)]
    · refine X.iconst dX6_reason_30 (pc' := 31) rfl ?_
      refine X.goto (tgt := 57) dX6_reason_31 (by decide) ?_
      refine X.iret dX6_reason_57 (Or.inl rfl) (Nat.le_of_ble_eq_true rfl) (Nat.le_of_ble_eq_true rfl) ?_
      subst hPR
      refine ⟨rfl, _, rfl, ?_⟩
      rw [if_pos (by omega)]
      unfold why
      rw [if_pos (by omega)]
  · refine X.iconst dX6_reason_10 (pc' := 11) rfl ?_
    refine X.iret dX6_reason_11 (Or.inl rfl) (Nat.le_of_ble_eq_true rfl) (Nat.le_of_ble_eq_true rfl) ?_
    subst hPR
    exact ⟨rfl, _, rfl, by rw [if_neg (by omega)]⟩
set_option maxHeartbeats 4000000 in
set_option maxRecDepth 100000 in
theorem k_X6_silentBeats {Ω : xO} {h : xM} {m : Nat} {A : aS} {n s : Int} (hS : MoS h m) (hM : RM h (m + 1) 0 A) (hA : aOK A) (hn : -1 ≤ n ∧ n < 2147483648) (hs : 0 ≤ s ∧ s < 6) : xCt Ω yX6_silentBeats cX6_silentBeats 5 (some .int) rm_X6_silentBeats [rf m, vi n, vi s] h (fun q h' => h = h' ∧ ∃ r, q = some (vi r) ∧ r = if 0 ≤ n ∧ n < aW A then sil A n s else -1) xNo := by
  refine xCt_of (ini := false) (by decide +kernel) (Nat.le_of_ble_eq_true rfl) (fun q => absurd q (by decide)) ?_
  generalize hPR : (fun q h' => h = h' ∧ ∃ r, q = some (vi r) ∧ r = if 0 ≤ n ∧ n < aW A then sil A n s else -1 : Option xV → xM → Prop) = PR
  have K0 : X Ω RX6 cX6_silentBeats 5 (some .int) false rm_X6_silentBeats PR xNo 0 0 0 [some (rf m), some (vi n), some (vi s), none, none] [] h := ?_
  exact K0
  obtain ⟨mSt, mB, mW, mWl, mWo, mCo, mHe⟩ := id hM
  obtain ⟨okB, okN, okWl, okS, okW, okM, okC, okH⟩ := id hA
  refine X.iload_n (i := 1) rfl rfl dX6_silentBeats_0 (pc' := 1) rfl ?_
  refine X.if_lt (tgt := 14) dX6_silentBeats_1 ⟨by omega, by omega⟩ (by decide) (pc' := 4) rfl (fun c1 => ?_) (fun c1 => ?_)
  · refine X.iconst dX6_silentBeats_14 (pc' := 15) rfl ?_
    refine X.iret dX6_silentBeats_15 (Or.inl rfl) (Nat.le_of_ble_eq_true rfl) (Nat.le_of_ble_eq_true rfl) ?_
    subst hPR
    exact ⟨rfl, _, rfl, by rw [if_neg (by omega)]⟩
  · refine X.iload_n (i := 1) rfl rfl dX6_silentBeats_4 (pc' := 5) rfl ?_
    refine X.aload_n (i := 0) rfl rfl dX6_silentBeats_5 (pc' := 6) rfl ?_
    refine X.getR fk_X6_8 xcl_6 dX6_silentBeats_6 hS.1 hS.2.1 (pc' := 9) rfl ?_
    refine X.iconst dX6_silentBeats_9 (pc' := 10) rfl ?_
    refine X.iald (x := aW A) dX6_silentBeats_10 hS.2.2.1 (by omega) (by omega) ⟨by omega, by omega⟩ (mI_at mW (by omega)) (pc' := 11) rfl (fun r1 => ?_)
    obtain ⟨r1a, r1b⟩ := r1
    refine X.icmp_lt (tgt := 16) dX6_silentBeats_11 ⟨by omega, by omega⟩ ⟨by omega, by omega⟩ (by decide) (pc' := 14) rfl (fun c11 => ?_) (fun c11 => ?_)
    · refine X.aload_n (i := 0) rfl rfl dX6_silentBeats_16 (pc' := 17) rfl ?_
      refine X.iload_n (i := 1) rfl rfl dX6_silentBeats_17 (pc' := 18) rfl ?_
      refine X.iload_n (i := 2) rfl rfl dX6_silentBeats_18 (pc' := 19) rfl ?_
      refine X.callV (ci := 6) (a := m) (rm := rm_X6_firstHeard) (As := [vi n, vi s]) (st := []) dX6_silentBeats_19 ck_X6_120 rfl (by decide) hS.1 rfl rfl ⟨Nat.le_of_ble_eq_true rfl, Nat.le_of_ble_eq_true rfl⟩ (Nat.le_of_ble_eq_true rfl) (Nat.le_of_ble_eq_true rfl) (Nat.le_of_ble_eq_true rfl) (pc' := 22) rfl (k_X6_firstHeard hS hM hA ⟨by omega, by omega⟩ hs) (fun q2 hq2 eq2 => ?_) (fun _ _ x1 => x1.elim)
      obtain ⟨rfl, x, rfl, hx⟩ := eq2
      have okn := okW n (by omega) (by omega)
      have hfr := fh_rng hA s n (by omega) (by omega) (by omega) (by omega)
      refine X.if_lt (tgt := 27) dX6_silentBeats_22 ⟨by omega, by omega⟩ (by decide) (pc' := 25) rfl (fun c22 => ?_) (fun c22 => ?_)
      · refine X.iconst dX6_silentBeats_27 (pc' := 28) rfl ?_
        refine X.istore_n (i := 3) (ls' := [some (rf m), some (vi n), some (vi s), some (vi ((-1))), none]) (hi := rfl) (hd := dX6_silentBeats_28) (by decide) rfl rfl (pc' := 29) rfl ?_
        refine X.bipush (by decide +kernel) dX6_silentBeats_29 (pc' := 31) rfl ?_
        refine X.istore (i := 4) (ls' := [some (rf m), some (vi n), some (vi s), some (vi ((-1))), some (vi 60)]) (hd := dX6_silentBeats_31) (by decide) rfl rfl (pc' := 33) rfl ?_
        have L33 : ∀ (n33 : Nat) (f : Int) (k : Int), k.toNat < n33 → (0 ≤ k ∧ k ≤ 60 ∧ f = fhF (fun k => vce A s (aB A + k - 1)) n (k + 1) (61 - (k + 1)).toNat) → X Ω RX6 cX6_silentBeats 5 (some .int) false rm_X6_silentBeats PR xNo 0 0 33 [some (rf m), some (vi n), some (vi s), some (vi f), some (vi k)] [] h := by
          intro n33
          induction n33 with
          | zero => intro f k hm _; exfalso; omega
          | succ n33 ih33 =>
            intro f k hm33 hinv
            obtain ⟨hk0, hkn, hf⟩ := hinv
            refine X.iload (i := 4) rfl dX6_silentBeats_33 (pc' := 35) rfl ?_
            refine X.if_le (tgt := 71) dX6_silentBeats_35 ⟨by omega, by omega⟩ (by decide) (pc' := 38) rfl (fun c35 => ?_) (fun c35 => ?_)
            · refine X.iload_n (i := 3) rfl rfl dX6_silentBeats_71 (pc' := 72) rfl ?_
              refine X.iret dX6_silentBeats_72 (Or.inl rfl) (Nat.le_of_ble_eq_true rfl) (Nat.le_of_ble_eq_true rfl) ?_
              subst hPR
              have e : k = 0 := by omega
              subst e
              refine ⟨rfl, _, rfl, ?_⟩
              rw [if_pos (by omega)]
              unfold sil
              rw [if_neg (by omega)]
              exact hf
            · refine X.aload_n (i := 0) rfl rfl dX6_silentBeats_38 (pc' := 39) rfl ?_
              refine X.iload_n (i := 2) rfl rfl dX6_silentBeats_39 (pc' := 40) rfl ?_
              refine X.aload_n (i := 0) rfl rfl dX6_silentBeats_40 (pc' := 41) rfl ?_
              refine X.getR fk_X6_8 xcl_6 dX6_silentBeats_41 hS.1 hS.2.1 (pc' := 44) rfl ?_
              refine X.iconst dX6_silentBeats_44 (pc' := 45) rfl ?_
              refine X.iald (x := aB A) dX6_silentBeats_45 hS.2.2.1 (by omega) (by omega) ⟨by omega, by omega⟩ (mI_at mB (by omega)) (pc' := 46) rfl (fun r3 => ?_)
              obtain ⟨r3a, r3b⟩ := r3
              refine X.iload (i := 4) rfl dX6_silentBeats_46 (pc' := 48) rfl ?_
              refine X.iadd dX6_silentBeats_48 (pc' := 49) rfl ?_
              refine X.iconst dX6_silentBeats_49 (pc' := 50) rfl ?_
              refine X.isub dX6_silentBeats_50 (pc' := 51) rfl ?_
              refine X.callV (ci := 6) (a := m) (rm := rm_X6_voice) (As := [vi s, vi (((aB A) + k) - 1)]) (st := []) dX6_silentBeats_51 ck_X6_43 rfl (by decide) hS.1 rfl rfl ⟨Nat.le_of_ble_eq_true rfl, Nat.le_of_ble_eq_true rfl⟩ (Nat.le_of_ble_eq_true rfl) (Nat.le_of_ble_eq_true rfl) (Nat.le_of_ble_eq_true rfl) (pc' := 54) rfl (k_X6_voice hS hM hA hs ⟨by omega, by omega⟩) (fun q4 hq4 eq4 => ?_) (fun _ _ x1 => x1.elim)
              obtain ⟨rfl, v, rfl, hv⟩ := eq4
              have hvr := vce_rng hA s (aB A + k - 1) (by omega) (by omega)
              refine X.iload_n (i := 1) rfl rfl dX6_silentBeats_54 (pc' := 55) rfl ?_
              refine X.icmp_ne (tgt := 63) dX6_silentBeats_55 ⟨by omega, by omega⟩ ⟨by omega, by omega⟩ (by decide) (pc' := 58) rfl (fun c55 => ?_) (fun c55 => ?_)
              · refine X.iload_n (i := 3) rfl rfl dX6_silentBeats_63 (pc' := 64) rfl ?_
                refine X.istore_n (i := 3) (ls' := [some (rf m), some (vi n), some (vi s), some (vi f), some (vi k)]) (hi := rfl) (hd := dX6_silentBeats_64) (by decide) rfl rfl (pc' := 65) rfl ?_
                refine X.iinc (i := 4) (ls' := [some (rf m), some (vi n), some (vi s), some (vi f), some (vi (k + (-1)))]) dX6_silentBeats_65 rfl (by decide) rfl rfl (pc' := 68) rfl ?_
                refine X.goto (tgt := 33) dX6_silentBeats_68 (by decide) ?_
                refine ih33 f (k + (-1)) (by omega) ?_
                refine ⟨by omega, by omega, ?_⟩
                rw [show k + -1 + 1 = k by omega, fhF_dn (show k < 61 by omega)]
                rw [if_neg ?_]
                · exact hf
                · show ¬ vce A s (aB A + k - 1) = n
                  omega
              · refine X.iload (i := 4) rfl dX6_silentBeats_58 (pc' := 60) rfl ?_
                refine X.goto (tgt := 64) dX6_silentBeats_60 (by decide) ?_
                refine X.istore_n (i := 3) (ls' := [some (rf m), some (vi n), some (vi s), some (vi k), some (vi k)]) (hi := rfl) (hd := dX6_silentBeats_64) (by decide) rfl rfl (pc' := 65) rfl ?_
                refine X.iinc (i := 4) (ls' := [some (rf m), some (vi n), some (vi s), some (vi k), some (vi (k + (-1)))]) dX6_silentBeats_65 rfl (by decide) rfl rfl (pc' := 68) rfl ?_
                refine X.goto (tgt := 33) dX6_silentBeats_68 (by decide) ?_
                refine ih33 k (k + (-1)) (by omega) ?_
                refine ⟨by omega, by omega, ?_⟩
                rw [show k + -1 + 1 = k by omega, fhF_dn (show k < 61 by omega)]
                rw [if_pos ?_]
                show vce A s (aB A + k - 1) = n
                omega
        refine L33 _ ((-1)) 60 (Nat.lt_succ_self _) ?_
        exact ⟨by omega, by omega, rfl⟩
      · refine X.iconst dX6_silentBeats_25 (pc' := 26) rfl ?_
        refine X.iret dX6_silentBeats_26 (Or.inl rfl) (Nat.le_of_ble_eq_true rfl) (Nat.le_of_ble_eq_true rfl) ?_
        subst hPR
        exact ⟨rfl, _, rfl, by rw [if_pos (by omega)]; unfold sil; rw [if_pos (by omega)]⟩
    · refine X.iconst dX6_silentBeats_14 (pc' := 15) rfl ?_
      refine X.iret dX6_silentBeats_15 (Or.inl rfl) (Nat.le_of_ble_eq_true rfl) (Nat.le_of_ble_eq_true rfl) ?_
      subst hPR
      exact ⟨rfl, _, rfl, by rw [if_neg (by omega)]⟩
set_option maxHeartbeats 4000000 in
set_option maxRecDepth 100000 in
theorem k_X6_best {Ω : xO} {h : xM} {m : Nat} {A : aS} (hS : MoS h m) (hM : RM h (m + 1) 0 A) (hA : aOK A) : xCt Ω yX6_best cX6_best 9 (some .int) rm_X6_best [rf m] h (fun q h' => h = h' ∧ ∃ r, q = some (vi r) ∧ r = bst A) xNo := by
  refine xCt_of (ini := false) (by decide +kernel) (Nat.le_of_ble_eq_true rfl) (fun q => absurd q (by decide)) ?_
  generalize hPR : (fun q h' => h = h' ∧ ∃ r, q = some (vi r) ∧ r = bst A : Option xV → xM → Prop) = PR
  have K0 : X Ω RX6 cX6_best 9 (some .int) false rm_X6_best PR xNo 0 0 0 [some (rf m), none, none, none, none, none, none, none, none] [] h := ?_
  exact K0
  obtain ⟨mSt, mB, mW, mWl, mWo, mCo, mHe⟩ := id hM
  obtain ⟨okB, okN, okWl, okS, okW, okM, okC, okH⟩ := id hA
  refine X.iconst dX6_best_0 (pc' := 1) rfl ?_
  refine X.istore_n (i := 1) (ls' := [some (rf m), some (vi 0), none, none, none, none, none, none, none]) (hi := rfl) (hd := dX6_best_1) (by decide) rfl rfl (pc' := 2) rfl ?_
  refine X.iconst dX6_best_2 (pc' := 3) rfl ?_
  refine X.istore_n (i := 2) (ls' := [some (rf m), some (vi 0), some (vi ((-1))), none, none, none, none, none, none]) (hi := rfl) (hd := dX6_best_3) (by decide) rfl rfl (pc' := 4) rfl ?_
  refine X.iconst dX6_best_4 (pc' := 5) rfl ?_
  refine X.istore_n (i := 3) (ls' := [some (rf m), some (vi 0), some (vi ((-1))), some (vi 0), none, none, none, none, none]) (hi := rfl) (hd := dX6_best_5) (by decide) rfl rfl (pc' := 6) rfl ?_
  refine X.iconst dX6_best_6 (pc' := 7) rfl ?_
  refine X.istore (i := 4) (ls' := [some (rf m), some (vi 0), some (vi ((-1))), some (vi 0), some (vi 0), none, none, none, none]) (hd := dX6_best_7) (by decide) rfl rfl (pc' := 9) rfl ?_
  have L9 : ∀ (n9 : Nat) (be : Int) (mo : Int) (de : Int) (k : Int), (6 - k).toNat < n9 → (0 ≤ k ∧ k ≤ 6 ∧ be = (bsF A k.toNat).1 ∧ mo = (bsF A k.toNat).2.1 ∧ de = (bsF A k.toNat).2.2) → X Ω RX6 cX6_best 9 (some .int) false rm_X6_best PR xNo 0 0 9 [some (rf m), some (vi be), some (vi mo), some (vi de), some (vi k), none, none, none, none] [] h := by
    intro n9
    induction n9 with
    | zero => intro be mo de k hm _; exfalso; omega
    | succ n9 ih9 =>
      intro be mo de k hm9 hinv
      obtain ⟨hk0, hk6, hbe, hmo, hde⟩ := hinv
      have hbr := bsF_rng hA k.toNat (by omega)
      have hmo2 : (0 ≤ be ∧ be ≤ 5) ∧ (-1 ≤ mo ∧ mo ≤ 6) ∧ (0 ≤ de ∧ de ≤ 19) := by omega
      refine X.iload (i := 4) rfl dX6_best_9 (pc' := 11) rfl ?_
      refine X.bipush (by decide +kernel) dX6_best_11 (pc' := 13) rfl ?_
      refine X.icmp_ge (tgt := 146) dX6_best_13 ⟨by omega, by omega⟩ ⟨by omega, by omega⟩ (by decide) (pc' := 16) rfl (fun c13 => ?_) (fun c13 => ?_)
      · refine X.iload_n (i := 1) rfl rfl dX6_best_146 (pc' := 147) rfl ?_
        refine X.iret dX6_best_147 (Or.inl rfl) (Nat.le_of_ble_eq_true rfl) (Nat.le_of_ble_eq_true rfl) ?_
        subst hPR
        have e : k = 6 := by omega
        subst e
        exact ⟨rfl, _, rfl, hbe⟩
      · refine X.iconst dX6_best_16 (pc' := 17) rfl ?_
        refine X.istore (i := 5) (ls' := [some (rf m), some (vi be), some (vi mo), some (vi de), some (vi k), some (vi 0), none, none, none]) (hd := dX6_best_17) (by decide) rfl rfl (pc' := 19) rfl ?_
        refine X.iconst dX6_best_19 (pc' := 20) rfl ?_
        refine X.istore (i := 6) (ls' := [some (rf m), some (vi be), some (vi mo), some (vi de), some (vi k), some (vi 0), some (vi 0), none, none]) (hd := dX6_best_20) (by decide) rfl rfl (pc' := 22) rfl ?_
        refine X.iconst dX6_best_22 (pc' := 23) rfl ?_
        refine X.istore (i := 7) (ls' := [some (rf m), some (vi be), some (vi mo), some (vi de), some (vi k), some (vi 0), some (vi 0), some (vi 0), none]) (hd := dX6_best_23) (by decide) rfl rfl (pc' := 25) rfl ?_
        have L25 : ∀ (n25 : Nat) (re : Int) (lo : Int) (t : Int), (6 - t).toNat < n25 → (0 ≤ t ∧ t ≤ 6 ∧ re = (bsR A k t.toNat).1 ∧ lo = (bsR A k t.toNat).2) → X Ω RX6 cX6_best 9 (some .int) false rm_X6_best PR xNo 0 0 25 [some (rf m), some (vi be), some (vi mo), some (vi de), some (vi k), some (vi re), some (vi lo), some (vi t), none] [] h := by
          intro n25
          induction n25 with
          | zero => intro re lo t hm _; exfalso; omega
          | succ n25 ih25 =>
            intro re lo t hm25 hinv
            obtain ⟨ht0, ht6, hre, hlo⟩ := hinv
            have hrr := bsR_rng hA (x := k) ⟨by omega, by omega⟩ t.toNat (by omega)
            have hreb : (0 ≤ re ∧ re ≤ 6) ∧ (0 ≤ lo ∧ lo ≤ 19) := by omega
            refine X.iload (i := 7) rfl dX6_best_25 (pc' := 27) rfl ?_
            refine X.bipush (by decide +kernel) dX6_best_27 (pc' := 29) rfl ?_
            refine X.icmp_ge (tgt := 79) dX6_best_29 ⟨by omega, by omega⟩ ⟨by omega, by omega⟩ (by decide) (pc' := 32) rfl (fun c29 => ?_) (fun c29 => ?_)
            · refine X.iload (i := 5) rfl dX6_best_79 (pc' := 81) rfl ?_
              refine X.iload_n (i := 2) rfl rfl dX6_best_81 (pc' := 82) rfl ?_
              refine X.icmp_gt (tgt := 97) dX6_best_82 ⟨by omega, by omega⟩ ⟨by omega, by omega⟩ (by decide) (pc' := 85) rfl (fun c82 => ?_) (fun c82 => ?_)
              · refine X.iconst dX6_best_97 (pc' := 98) rfl ?_
                refine X.goto (tgt := 102) dX6_best_98 (by decide) ?_
                refine X.istore (i := 7) (ls' := [some (rf m), some (vi be), some (vi mo), some (vi de), some (vi k), some (vi re), some (vi lo), some (vi 1), none]) (hd := dX6_best_102) (by decide) rfl rfl (pc' := 104) rfl ?_
                refine X.iload (i := 7) rfl dX6_best_104 (pc' := 106) rfl ?_
                refine X.if_eq (tgt := 114) dX6_best_106 ⟨by omega, by omega⟩ (by decide) (pc' := 109) rfl (fun c106 => by exfalso; omega) (fun c106 => ?_)
                refine X.iload (i := 4) rfl dX6_best_109 (pc' := 111) rfl ?_
                refine X.goto (tgt := 115) dX6_best_111 (by decide) ?_
                refine X.istore_n (i := 1) (ls' := [some (rf m), some (vi k), some (vi mo), some (vi de), some (vi k), some (vi re), some (vi lo), some (vi 1), none]) (hi := rfl) (hd := dX6_best_115) (by decide) rfl rfl (pc' := 116) rfl ?_
                refine X.iload (i := 7) rfl dX6_best_116 (pc' := 118) rfl ?_
                refine X.if_eq (tgt := 126) dX6_best_118 ⟨by omega, by omega⟩ (by decide) (pc' := 121) rfl (fun c118 => by exfalso; omega) (fun c118 => ?_)
                refine X.iload (i := 6) rfl dX6_best_121 (pc' := 123) rfl ?_
                refine X.goto (tgt := 127) dX6_best_123 (by decide) ?_
                refine X.istore_n (i := 3) (ls' := [some (rf m), some (vi k), some (vi mo), some (vi lo), some (vi k), some (vi re), some (vi lo), some (vi 1), none]) (hi := rfl) (hd := dX6_best_127) (by decide) rfl rfl (pc' := 128) rfl ?_
                refine X.iload (i := 7) rfl dX6_best_128 (pc' := 130) rfl ?_
                refine X.if_eq (tgt := 138) dX6_best_130 ⟨by omega, by omega⟩ (by decide) (pc' := 133) rfl (fun c130 => by exfalso; omega) (fun c130 => ?_)
                refine X.iload (i := 5) rfl dX6_best_133 (pc' := 135) rfl ?_
                refine X.goto (tgt := 139) dX6_best_135 (by decide) ?_
                refine X.istore_n (i := 2) (ls' := [some (rf m), some (vi k), some (vi re), some (vi lo), some (vi k), some (vi re), some (vi lo), some (vi 1), none]) (hi := rfl) (hd := dX6_best_139) (by decide) rfl rfl (pc' := 140) rfl ?_
                refine X.iinc (i := 4) (ls' := [some (rf m), some (vi k), some (vi re), some (vi lo), some (vi (k + 1)), some (vi re), some (vi lo), some (vi 1), none]) dX6_best_140 rfl (by decide) rfl rfl (pc' := 143) rfl ?_
                refine X.goto (tgt := 9) dX6_best_143 (by decide) ?_
                refine X.mask (bs := [true, true, true, true, true, false, false, false, false]) (ls' := [some (rf m), some (vi k), some (vi re), some (vi lo), some (vi (k + 1)), none, none, none, none]) rfl ?_
                refine ih9 k re lo (k + 1) (by omega) ?_
                have et : t = 6 := by omega
                subst et
                have lo2 : lo = (bsR A k 6).2 := hlo
                have re2 : re = (bsR A k 6).1 := hre
                have g1 := bsF_in (A := A) hk0 (by omega)
                exact ⟨by omega, by omega, by omega, by omega, by omega⟩
              · refine X.iload (i := 5) rfl dX6_best_85 (pc' := 87) rfl ?_
                refine X.iload_n (i := 2) rfl rfl dX6_best_87 (pc' := 88) rfl ?_
                refine X.icmp_ne (tgt := 101) dX6_best_88 ⟨by omega, by omega⟩ ⟨by omega, by omega⟩ (by decide) (pc' := 91) rfl (fun c88 => ?_) (fun c88 => ?_)
                · refine X.iconst dX6_best_101 (pc' := 102) rfl ?_
                  refine X.istore (i := 7) (ls' := [some (rf m), some (vi be), some (vi mo), some (vi de), some (vi k), some (vi re), some (vi lo), some (vi 0), none]) (hd := dX6_best_102) (by decide) rfl rfl (pc' := 104) rfl ?_
                  refine X.iload (i := 7) rfl dX6_best_104 (pc' := 106) rfl ?_
                  refine X.if_eq (tgt := 114) dX6_best_106 ⟨by omega, by omega⟩ (by decide) (pc' := 109) rfl (fun c106 => ?_) (fun c106 => by exfalso; omega)
                  refine X.iload_n (i := 1) rfl rfl dX6_best_114 (pc' := 115) rfl ?_
                  refine X.istore_n (i := 1) (ls' := [some (rf m), some (vi be), some (vi mo), some (vi de), some (vi k), some (vi re), some (vi lo), some (vi 0), none]) (hi := rfl) (hd := dX6_best_115) (by decide) rfl rfl (pc' := 116) rfl ?_
                  refine X.iload (i := 7) rfl dX6_best_116 (pc' := 118) rfl ?_
                  refine X.if_eq (tgt := 126) dX6_best_118 ⟨by omega, by omega⟩ (by decide) (pc' := 121) rfl (fun c118 => ?_) (fun c118 => by exfalso; omega)
                  refine X.iload_n (i := 3) rfl rfl dX6_best_126 (pc' := 127) rfl ?_
                  refine X.istore_n (i := 3) (ls' := [some (rf m), some (vi be), some (vi mo), some (vi de), some (vi k), some (vi re), some (vi lo), some (vi 0), none]) (hi := rfl) (hd := dX6_best_127) (by decide) rfl rfl (pc' := 128) rfl ?_
                  refine X.iload (i := 7) rfl dX6_best_128 (pc' := 130) rfl ?_
                  refine X.if_eq (tgt := 138) dX6_best_130 ⟨by omega, by omega⟩ (by decide) (pc' := 133) rfl (fun c130 => ?_) (fun c130 => by exfalso; omega)
                  refine X.iload_n (i := 2) rfl rfl dX6_best_138 (pc' := 139) rfl ?_
                  refine X.istore_n (i := 2) (ls' := [some (rf m), some (vi be), some (vi mo), some (vi de), some (vi k), some (vi re), some (vi lo), some (vi 0), none]) (hi := rfl) (hd := dX6_best_139) (by decide) rfl rfl (pc' := 140) rfl ?_
                  refine X.iinc (i := 4) (ls' := [some (rf m), some (vi be), some (vi mo), some (vi de), some (vi (k + 1)), some (vi re), some (vi lo), some (vi 0), none]) dX6_best_140 rfl (by decide) rfl rfl (pc' := 143) rfl ?_
                  refine X.goto (tgt := 9) dX6_best_143 (by decide) ?_
                  refine X.mask (bs := [true, true, true, true, true, false, false, false, false]) (ls' := [some (rf m), some (vi be), some (vi mo), some (vi de), some (vi (k + 1)), none, none, none, none]) rfl ?_
                  refine ih9 be mo de (k + 1) (by omega) ?_
                  have et : t = 6 := by omega
                  subst et
                  have lo2 : lo = (bsR A k 6).2 := hlo
                  have re2 : re = (bsR A k 6).1 := hre
                  have g1 := bsF_out (A := A) hk0 (by omega)
                  rw [g1]
                  exact ⟨by omega, by omega, hbe, hmo, hde⟩
                · refine X.iload (i := 6) rfl dX6_best_91 (pc' := 93) rfl ?_
                  refine X.iload_n (i := 3) rfl rfl dX6_best_93 (pc' := 94) rfl ?_
                  refine X.icmp_ge (tgt := 101) dX6_best_94 ⟨by omega, by omega⟩ ⟨by omega, by omega⟩ (by decide) (pc' := 97) rfl (fun c94 => ?_) (fun c94 => ?_)
                  · refine X.iconst dX6_best_101 (pc' := 102) rfl ?_
                    refine X.istore (i := 7) (ls' := [some (rf m), some (vi be), some (vi mo), some (vi de), some (vi k), some (vi re), some (vi lo), some (vi 0), none]) (hd := dX6_best_102) (by decide) rfl rfl (pc' := 104) rfl ?_
                    refine X.iload (i := 7) rfl dX6_best_104 (pc' := 106) rfl ?_
                    refine X.if_eq (tgt := 114) dX6_best_106 ⟨by omega, by omega⟩ (by decide) (pc' := 109) rfl (fun c106 => ?_) (fun c106 => by exfalso; omega)
                    refine X.iload_n (i := 1) rfl rfl dX6_best_114 (pc' := 115) rfl ?_
                    refine X.istore_n (i := 1) (ls' := [some (rf m), some (vi be), some (vi mo), some (vi de), some (vi k), some (vi re), some (vi lo), some (vi 0), none]) (hi := rfl) (hd := dX6_best_115) (by decide) rfl rfl (pc' := 116) rfl ?_
                    refine X.iload (i := 7) rfl dX6_best_116 (pc' := 118) rfl ?_
                    refine X.if_eq (tgt := 126) dX6_best_118 ⟨by omega, by omega⟩ (by decide) (pc' := 121) rfl (fun c118 => ?_) (fun c118 => by exfalso; omega)
                    refine X.iload_n (i := 3) rfl rfl dX6_best_126 (pc' := 127) rfl ?_
                    refine X.istore_n (i := 3) (ls' := [some (rf m), some (vi be), some (vi mo), some (vi de), some (vi k), some (vi re), some (vi lo), some (vi 0), none]) (hi := rfl) (hd := dX6_best_127) (by decide) rfl rfl (pc' := 128) rfl ?_
                    refine X.iload (i := 7) rfl dX6_best_128 (pc' := 130) rfl ?_
                    refine X.if_eq (tgt := 138) dX6_best_130 ⟨by omega, by omega⟩ (by decide) (pc' := 133) rfl (fun c130 => ?_) (fun c130 => by exfalso; omega)
                    refine X.iload_n (i := 2) rfl rfl dX6_best_138 (pc' := 139) rfl ?_
                    refine X.istore_n (i := 2) (ls' := [some (rf m), some (vi be), some (vi mo), some (vi de), some (vi k), some (vi re), some (vi lo), some (vi 0), none]) (hi := rfl) (hd := dX6_best_139) (by decide) rfl rfl (pc' := 140) rfl ?_
                    refine X.iinc (i := 4) (ls' := [some (rf m), some (vi be), some (vi mo), some (vi de), some (vi (k + 1)), some (vi re), some (vi lo), some (vi 0), none]) dX6_best_140 rfl (by decide) rfl rfl (pc' := 143) rfl ?_
                    refine X.goto (tgt := 9) dX6_best_143 (by decide) ?_
                    refine X.mask (bs := [true, true, true, true, true, false, false, false, false]) (ls' := [some (rf m), some (vi be), some (vi mo), some (vi de), some (vi (k + 1)), none, none, none, none]) rfl ?_
                    refine ih9 be mo de (k + 1) (by omega) ?_
                    have et : t = 6 := by omega
                    subst et
                    have lo2 : lo = (bsR A k 6).2 := hlo
                    have re2 : re = (bsR A k 6).1 := hre
                    have g1 := bsF_out (A := A) hk0 (by omega)
                    rw [g1]
                    exact ⟨by omega, by omega, hbe, hmo, hde⟩
                  · refine X.iconst dX6_best_97 (pc' := 98) rfl ?_
                    refine X.goto (tgt := 102) dX6_best_98 (by decide) ?_
                    refine X.istore (i := 7) (ls' := [some (rf m), some (vi be), some (vi mo), some (vi de), some (vi k), some (vi re), some (vi lo), some (vi 1), none]) (hd := dX6_best_102) (by decide) rfl rfl (pc' := 104) rfl ?_
                    refine X.iload (i := 7) rfl dX6_best_104 (pc' := 106) rfl ?_
                    refine X.if_eq (tgt := 114) dX6_best_106 ⟨by omega, by omega⟩ (by decide) (pc' := 109) rfl (fun c106 => by exfalso; omega) (fun c106 => ?_)
                    refine X.iload (i := 4) rfl dX6_best_109 (pc' := 111) rfl ?_
                    refine X.goto (tgt := 115) dX6_best_111 (by decide) ?_
                    refine X.istore_n (i := 1) (ls' := [some (rf m), some (vi k), some (vi mo), some (vi de), some (vi k), some (vi re), some (vi lo), some (vi 1), none]) (hi := rfl) (hd := dX6_best_115) (by decide) rfl rfl (pc' := 116) rfl ?_
                    refine X.iload (i := 7) rfl dX6_best_116 (pc' := 118) rfl ?_
                    refine X.if_eq (tgt := 126) dX6_best_118 ⟨by omega, by omega⟩ (by decide) (pc' := 121) rfl (fun c118 => by exfalso; omega) (fun c118 => ?_)
                    refine X.iload (i := 6) rfl dX6_best_121 (pc' := 123) rfl ?_
                    refine X.goto (tgt := 127) dX6_best_123 (by decide) ?_
                    refine X.istore_n (i := 3) (ls' := [some (rf m), some (vi k), some (vi mo), some (vi lo), some (vi k), some (vi re), some (vi lo), some (vi 1), none]) (hi := rfl) (hd := dX6_best_127) (by decide) rfl rfl (pc' := 128) rfl ?_
                    refine X.iload (i := 7) rfl dX6_best_128 (pc' := 130) rfl ?_
                    refine X.if_eq (tgt := 138) dX6_best_130 ⟨by omega, by omega⟩ (by decide) (pc' := 133) rfl (fun c130 => by exfalso; omega) (fun c130 => ?_)
                    refine X.iload (i := 5) rfl dX6_best_133 (pc' := 135) rfl ?_
                    refine X.goto (tgt := 139) dX6_best_135 (by decide) ?_
                    refine X.istore_n (i := 2) (ls' := [some (rf m), some (vi k), some (vi re), some (vi lo), some (vi k), some (vi re), some (vi lo), some (vi 1), none]) (hi := rfl) (hd := dX6_best_139) (by decide) rfl rfl (pc' := 140) rfl ?_
                    refine X.iinc (i := 4) (ls' := [some (rf m), some (vi k), some (vi re), some (vi lo), some (vi (k + 1)), some (vi re), some (vi lo), some (vi 1), none]) dX6_best_140 rfl (by decide) rfl rfl (pc' := 143) rfl ?_
                    refine X.goto (tgt := 9) dX6_best_143 (by decide) ?_
                    refine X.mask (bs := [true, true, true, true, true, false, false, false, false]) (ls' := [some (rf m), some (vi k), some (vi re), some (vi lo), some (vi (k + 1)), none, none, none, none]) rfl ?_
                    refine ih9 k re lo (k + 1) (by omega) ?_
                    have et : t = 6 := by omega
                    subst et
                    have lo2 : lo = (bsR A k 6).2 := hlo
                    have re2 : re = (bsR A k 6).1 := hre
                    have g1 := bsF_in (A := A) hk0 (by omega)
                    exact ⟨by omega, by omega, by omega, by omega, by omega⟩
            · refine X.aload_n (i := 0) rfl rfl dX6_best_32 (pc' := 33) rfl ?_
              refine X.iload (i := 4) rfl dX6_best_33 (pc' := 35) rfl ?_
              refine X.iload (i := 7) rfl dX6_best_35 (pc' := 37) rfl ?_
              refine X.callV (ci := 6) (a := m) (rm := rm_X6_delay) (As := [vi k, vi t]) (st := []) dX6_best_37 ck_X6_46 rfl (by decide) hS.1 rfl rfl ⟨Nat.le_of_ble_eq_true rfl, Nat.le_of_ble_eq_true rfl⟩ (Nat.le_of_ble_eq_true rfl) (Nat.le_of_ble_eq_true rfl) (Nat.le_of_ble_eq_true rfl) (pc' := 40) rfl (k_X6_delay hS hM hA ⟨by omega, by omega⟩ ⟨by omega, by omega⟩) (fun q1 hq1 eq1 => ?_) (fun _ _ x1 => x1.elim)
              obtain ⟨rfl, dd, rfl, hdd⟩ := eq1
              have hdr := dly_rng hA (x := k) (y := t) ⟨by omega, by omega⟩ ⟨by omega, by omega⟩
              refine X.istore (i := 8) (ls' := [some (rf m), some (vi be), some (vi mo), some (vi de), some (vi k), some (vi re), some (vi lo), some (vi t), some (vi dd)]) (hd := dX6_best_40) (by decide) rfl rfl (pc' := 42) rfl ?_
              refine X.iload (i := 5) rfl dX6_best_42 (pc' := 44) rfl ?_
              refine X.iload (i := 8) rfl dX6_best_44 (pc' := 46) rfl ?_
              refine X.if_lt (tgt := 53) dX6_best_46 ⟨by omega, by omega⟩ (by decide) (pc' := 49) rfl (fun c46 => ?_) (fun c46 => ?_)
              · refine X.iconst dX6_best_53 (pc' := 54) rfl ?_
                refine X.iadd dX6_best_54 (pc' := 55) rfl ?_
                refine X.gen (fun x2 hx2 => ?_)
                refine X.istore (i := 5) (ls' := [some (rf m), some (vi be), some (vi mo), some (vi de), some (vi k), some (vi x2), some (vi lo), some (vi t), some (vi dd)]) (hd := dX6_best_55) (by decide) rfl rfl (pc' := 57) rfl ?_
                refine X.iload (i := 8) rfl dX6_best_57 (pc' := 59) rfl ?_
                refine X.iload (i := 6) rfl dX6_best_59 (pc' := 61) rfl ?_
                refine X.icmp_le (tgt := 69) dX6_best_61 ⟨by omega, by omega⟩ ⟨by omega, by omega⟩ (by decide) (pc' := 64) rfl (fun c61 => ?_) (fun c61 => ?_)
                · refine X.iload (i := 6) rfl dX6_best_69 (pc' := 71) rfl ?_
                  refine X.istore (i := 6) (ls' := [some (rf m), some (vi be), some (vi mo), some (vi de), some (vi k), some (vi x2), some (vi lo), some (vi t), some (vi dd)]) (hd := dX6_best_71) (by decide) rfl rfl (pc' := 73) rfl ?_
                  refine X.iinc (i := 7) (ls' := [some (rf m), some (vi be), some (vi mo), some (vi de), some (vi k), some (vi x2), some (vi lo), some (vi (t + 1)), some (vi dd)]) dX6_best_73 rfl (by decide) rfl rfl (pc' := 76) rfl ?_
                  refine X.goto (tgt := 25) dX6_best_76 (by decide) ?_
                  refine X.mask (bs := [true, true, true, true, true, true, true, true, false]) (ls' := [some (rf m), some (vi be), some (vi mo), some (vi de), some (vi k), some (vi x2), some (vi lo), some (vi (t + 1)), none]) rfl ?_
                  refine ih25 x2 lo (t + 1) (by omega) ?_
                  refine ⟨by omega, by omega, ?_⟩
                  have g1 := bsR_no (A := A) (x := k) ht0 (by omega)
                  rw [g1]
                  exact ⟨by omega, by omega⟩
                · refine X.iload (i := 8) rfl dX6_best_64 (pc' := 66) rfl ?_
                  refine X.goto (tgt := 71) dX6_best_66 (by decide) ?_
                  refine X.istore (i := 6) (ls' := [some (rf m), some (vi be), some (vi mo), some (vi de), some (vi k), some (vi x2), some (vi dd), some (vi t), some (vi dd)]) (hd := dX6_best_71) (by decide) rfl rfl (pc' := 73) rfl ?_
                  refine X.iinc (i := 7) (ls' := [some (rf m), some (vi be), some (vi mo), some (vi de), some (vi k), some (vi x2), some (vi dd), some (vi (t + 1)), some (vi dd)]) dX6_best_73 rfl (by decide) rfl rfl (pc' := 76) rfl ?_
                  refine X.goto (tgt := 25) dX6_best_76 (by decide) ?_
                  refine X.mask (bs := [true, true, true, true, true, true, true, true, false]) (ls' := [some (rf m), some (vi be), some (vi mo), some (vi de), some (vi k), some (vi x2), some (vi dd), some (vi (t + 1)), none]) rfl ?_
                  refine ih25 x2 dd (t + 1) (by omega) ?_
                  refine ⟨by omega, by omega, ?_⟩
                  have g1 := bsR_no (A := A) (x := k) ht0 (by omega)
                  rw [g1]
                  exact ⟨by omega, by omega⟩
              · refine X.iconst dX6_best_49 (pc' := 50) rfl ?_
                refine X.goto (tgt := 54) dX6_best_50 (by decide) ?_
                refine X.iadd dX6_best_54 (pc' := 55) rfl ?_
                refine X.gen (fun x3 hx3 => ?_)
                refine X.istore (i := 5) (ls' := [some (rf m), some (vi be), some (vi mo), some (vi de), some (vi k), some (vi x3), some (vi lo), some (vi t), some (vi dd)]) (hd := dX6_best_55) (by decide) rfl rfl (pc' := 57) rfl ?_
                refine X.iload (i := 8) rfl dX6_best_57 (pc' := 59) rfl ?_
                refine X.iload (i := 6) rfl dX6_best_59 (pc' := 61) rfl ?_
                refine X.icmp_le (tgt := 69) dX6_best_61 ⟨by omega, by omega⟩ ⟨by omega, by omega⟩ (by decide) (pc' := 64) rfl (fun c61 => ?_) (fun c61 => ?_)
                · refine X.iload (i := 6) rfl dX6_best_69 (pc' := 71) rfl ?_
                  refine X.istore (i := 6) (ls' := [some (rf m), some (vi be), some (vi mo), some (vi de), some (vi k), some (vi x3), some (vi lo), some (vi t), some (vi dd)]) (hd := dX6_best_71) (by decide) rfl rfl (pc' := 73) rfl ?_
                  refine X.iinc (i := 7) (ls' := [some (rf m), some (vi be), some (vi mo), some (vi de), some (vi k), some (vi x3), some (vi lo), some (vi (t + 1)), some (vi dd)]) dX6_best_73 rfl (by decide) rfl rfl (pc' := 76) rfl ?_
                  refine X.goto (tgt := 25) dX6_best_76 (by decide) ?_
                  refine X.mask (bs := [true, true, true, true, true, true, true, true, false]) (ls' := [some (rf m), some (vi be), some (vi mo), some (vi de), some (vi k), some (vi x3), some (vi lo), some (vi (t + 1)), none]) rfl ?_
                  refine ih25 x3 lo (t + 1) (by omega) ?_
                  refine ⟨by omega, by omega, ?_⟩
                  have g1 := bsR_in (A := A) (x := k) ht0 (by omega)
                  rw [g1.1, g1.2, ← hlo, ← hre, ← hdd]
                  refine ⟨by omega, ?_⟩
                  split <;> omega
                · refine X.iload (i := 8) rfl dX6_best_64 (pc' := 66) rfl ?_
                  refine X.goto (tgt := 71) dX6_best_66 (by decide) ?_
                  refine X.istore (i := 6) (ls' := [some (rf m), some (vi be), some (vi mo), some (vi de), some (vi k), some (vi x3), some (vi dd), some (vi t), some (vi dd)]) (hd := dX6_best_71) (by decide) rfl rfl (pc' := 73) rfl ?_
                  refine X.iinc (i := 7) (ls' := [some (rf m), some (vi be), some (vi mo), some (vi de), some (vi k), some (vi x3), some (vi dd), some (vi (t + 1)), some (vi dd)]) dX6_best_73 rfl (by decide) rfl rfl (pc' := 76) rfl ?_
                  refine X.goto (tgt := 25) dX6_best_76 (by decide) ?_
                  refine X.mask (bs := [true, true, true, true, true, true, true, true, false]) (ls' := [some (rf m), some (vi be), some (vi mo), some (vi de), some (vi k), some (vi x3), some (vi dd), some (vi (t + 1)), none]) rfl ?_
                  refine ih25 x3 dd (t + 1) (by omega) ?_
                  refine ⟨by omega, by omega, ?_⟩
                  have g1 := bsR_in (A := A) (x := k) ht0 (by omega)
                  rw [g1.1, g1.2, ← hlo, ← hre, ← hdd]
                  refine ⟨by omega, ?_⟩
                  split <;> omega
        refine L25 _ 0 0 0 (Nat.lt_succ_self _) ?_
        exact ⟨by omega, by omega, rfl, rfl⟩
  refine L9 _ 0 ((-1)) 0 0 (Nat.lt_succ_self _) ?_
  exact ⟨by omega, by omega, rfl, rfl, rfl⟩
set_option maxHeartbeats 4000000 in
set_option maxRecDepth 100000 in
theorem k_X6_counted {Ω : xO} {h : xM} {m : Nat} {L : lS} {w : Int} (hL : ML h m L) (hw : 0 ≤ w ∧ w ≤ 9) : xCt Ω yX6_counted cX6_counted 2 (some .int) rm_X6_counted [rf m, vi w] h (fun q h' => h = h' ∧ ∃ r, q = some (vi r) ∧ r = if w = 9 then lZ L else oAl (lA L) w) xNo := by
  refine xCt_of (ini := false) (by decide +kernel) (Nat.le_of_ble_eq_true rfl) (fun q => absurd q (by decide)) ?_
  generalize hPR : (fun q h' => h = h' ∧ ∃ r, q = some (vi r) ∧ r = if w = 9 then lZ L else oAl (lA L) w : Option xV → xM → Prop) = PR
  have K0 : X Ω RX6 cX6_counted 2 (some .int) false rm_X6_counted PR xNo 0 0 0 [some (rf m), some (vi w)] [] h := ?_
  exact K0
  have hz := hL.2.2.1
  have hO := hL.2.2.2.2.2.2.2.2
  have hz6 := hO.2.2.1
  have hA : aOK (lA L) := hO.2.1.1
  have hM := hL.2.1
  obtain ⟨mSt, mB, mW, mWl, mWo, mCo, mHe⟩ := id hM
  obtain ⟨okB, okN, okWl, okS, okW, okM, okC, okH⟩ := id hA
  have hTn := hL.2.2.2.2.2.2.1
  have hTr := hO.2.2.2.2.1
  have hKf := hL.2.2.2.2.1
  have hKb := hO.2.2.2.1
  refine X.iload_n (i := 1) rfl rfl dX6_counted_0 (pc' := 1) rfl ?_
  rcases (show w = 0 ∨ w = 1 ∨ w = 2 ∨ w = 3 ∨ w = 4 ∨ w = 5 ∨ w = 6 ∨ w = 7 ∨ w = 8 ∨ w = 9 by omega) with sw1 | sw1 | sw1 | sw1 | sw1 | sw1 | sw1 | sw1 | sw1 | sw1
  · refine X.tableIn (tgt := 56) (off := 55) dX6_counted_1 ⟨by omega, by omega⟩ (by omega) (by omega) (by rw [sw1]; rfl) (by decide) ?_
    refine X.aload_n (i := 0) rfl rfl dX6_counted_56 (pc' := 57) rfl ?_
    refine X.getR fk_X6_8 xcl_6 dX6_counted_57 hL.1.1 hL.1.2.1 (pc' := 60) rfl ?_
    refine X.iconst dX6_counted_60 (pc' := 61) rfl ?_
    refine X.iald (x := aB (lA L)) dX6_counted_61 hL.1.2.2.1 (by omega) (by omega) ⟨by omega, by omega⟩ (mI_at mB (by omega)) (pc' := 62) rfl (fun r2 => ?_)
    obtain ⟨r2a, r2b⟩ := r2
    refine X.iret dX6_counted_62 (Or.inl rfl) (Nat.le_of_ble_eq_true rfl) (Nat.le_of_ble_eq_true rfl) ?_
    subst hPR
    subst sw1
    exact ⟨rfl, _, rfl, rfl⟩
  · refine X.tableIn (tgt := 63) (off := 62) dX6_counted_1 ⟨by omega, by omega⟩ (by omega) (by omega) (by rw [sw1]; rfl) (by decide) ?_
    refine X.aload_n (i := 0) rfl rfl dX6_counted_63 (pc' := 64) rfl ?_
    refine X.getR fk_X6_8 xcl_6 dX6_counted_64 hL.1.1 hL.1.2.1 (pc' := 67) rfl ?_
    refine X.iconst dX6_counted_67 (pc' := 68) rfl ?_
    refine X.iald (x := aW (lA L)) dX6_counted_68 hL.1.2.2.1 (by omega) (by omega) ⟨by omega, by omega⟩ (mI_at mW (by omega)) (pc' := 69) rfl (fun r3 => ?_)
    obtain ⟨r3a, r3b⟩ := r3
    refine X.iret dX6_counted_69 (Or.inl rfl) (Nat.le_of_ble_eq_true rfl) (Nat.le_of_ble_eq_true rfl) ?_
    subst hPR
    subst sw1
    exact ⟨rfl, _, rfl, rfl⟩
  · refine X.tableIn (tgt := 70) (off := 69) dX6_counted_1 ⟨by omega, by omega⟩ (by omega) (by omega) (by rw [sw1]; rfl) (by decide) ?_
    refine X.aload_n (i := 0) rfl rfl dX6_counted_70 (pc' := 71) rfl ?_
    refine X.bipush (by decide +kernel) dX6_counted_71 (pc' := 73) rfl ?_
    refine X.callV (ci := 6) (a := m) (rm := rm_X6_wordsHeardBy) (As := [vi 63]) (st := []) dX6_counted_73 ck_X6_160 rfl (by decide) hL.1.1 rfl rfl ⟨Nat.le_of_ble_eq_true rfl, Nat.le_of_ble_eq_true rfl⟩ (Nat.le_of_ble_eq_true rfl) (Nat.le_of_ble_eq_true rfl) (Nat.le_of_ble_eq_true rfl) (pc' := 76) rfl (k_X6_wordsHeardBy hL.1 hM hA ⟨by omega, by omega⟩) (fun q4 hq4 eq4 => ?_) (fun _ _ x1 => x1.elim)
    obtain ⟨rfl, r5, rfl, hr5⟩ := eq4
    refine X.iret dX6_counted_76 (Or.inl rfl) (Nat.le_of_ble_eq_true rfl) (Nat.le_of_ble_eq_true rfl) ?_
    subst hPR
    subst sw1
    exact ⟨rfl, _, rfl, hr5⟩
  · refine X.tableIn (tgt := 77) (off := 76) dX6_counted_1 ⟨by omega, by omega⟩ (by omega) (by omega) (by rw [sw1]; rfl) (by decide) ?_
    refine X.aload_n (i := 0) rfl rfl dX6_counted_77 (pc' := 78) rfl ?_
    refine X.iconst dX6_counted_78 (pc' := 79) rfl ?_
    refine X.callV (ci := 6) (a := m) (rm := rm_X6_wordsHeardBy) (As := [vi 0]) (st := []) dX6_counted_79 ck_X6_160 rfl (by decide) hL.1.1 rfl rfl ⟨Nat.le_of_ble_eq_true rfl, Nat.le_of_ble_eq_true rfl⟩ (Nat.le_of_ble_eq_true rfl) (Nat.le_of_ble_eq_true rfl) (Nat.le_of_ble_eq_true rfl) (pc' := 82) rfl (k_X6_wordsHeardBy hL.1 hM hA ⟨by omega, by omega⟩) (fun q6 hq6 eq6 => ?_) (fun _ _ x1 => x1.elim)
    obtain ⟨rfl, r7, rfl, hr7⟩ := eq6
    refine X.iret dX6_counted_82 (Or.inl rfl) (Nat.le_of_ble_eq_true rfl) (Nat.le_of_ble_eq_true rfl) ?_
    subst hPR
    subst sw1
    exact ⟨rfl, _, rfl, hr7⟩
  · refine X.tableIn (tgt := 83) (off := 82) dX6_counted_1 ⟨by omega, by omega⟩ (by omega) (by omega) (by rw [sw1]; rfl) (by decide) ?_
    refine X.aload_n (i := 0) rfl rfl dX6_counted_83 (pc' := 84) rfl ?_
    refine X.iconst dX6_counted_84 (pc' := 85) rfl ?_
    refine X.callV (ci := 6) (a := m) (rm := rm_X6_messages) (As := [vi 0]) (st := []) dX6_counted_85 ck_X6_163 rfl (by decide) hL.1.1 rfl rfl ⟨Nat.le_of_ble_eq_true rfl, Nat.le_of_ble_eq_true rfl⟩ (Nat.le_of_ble_eq_true rfl) (Nat.le_of_ble_eq_true rfl) (Nat.le_of_ble_eq_true rfl) (pc' := 88) rfl (k_X6_messages hL.1 hM hA) (fun q8 hq8 eq8 => ?_) (fun _ _ x1 => x1.elim)
    obtain ⟨rfl, r9, rfl, hr9⟩ := eq8
    refine X.iret dX6_counted_88 (Or.inl rfl) (Nat.le_of_ble_eq_true rfl) (Nat.le_of_ble_eq_true rfl) ?_
    subst hPR
    subst sw1
    exact ⟨rfl, _, rfl, hr9⟩
  · refine X.tableIn (tgt := 89) (off := 88) dX6_counted_1 ⟨by omega, by omega⟩ (by omega) (by omega) (by rw [sw1]; rfl) (by decide) ?_
    refine X.aload_n (i := 0) rfl rfl dX6_counted_89 (pc' := 90) rfl ?_
    refine X.iconst dX6_counted_90 (pc' := 91) rfl ?_
    refine X.callV (ci := 6) (a := m) (rm := rm_X6_messages) (As := [vi 1]) (st := []) dX6_counted_91 ck_X6_163 rfl (by decide) hL.1.1 rfl rfl ⟨Nat.le_of_ble_eq_true rfl, Nat.le_of_ble_eq_true rfl⟩ (Nat.le_of_ble_eq_true rfl) (Nat.le_of_ble_eq_true rfl) (Nat.le_of_ble_eq_true rfl) (pc' := 94) rfl (k_X6_messages1 hL.1 hM hA) (fun q10 hq10 eq10 => ?_) (fun _ _ x1 => x1.elim)
    obtain ⟨rfl, r11, rfl, hr11⟩ := eq10
    refine X.iret dX6_counted_94 (Or.inl rfl) (Nat.le_of_ble_eq_true rfl) (Nat.le_of_ble_eq_true rfl) ?_
    subst hPR
    subst sw1
    exact ⟨rfl, _, rfl, hr11⟩
  · refine X.tableIn (tgt := 100) (off := 99) dX6_counted_1 ⟨by omega, by omega⟩ (by omega) (by omega) (by rw [sw1]; rfl) (by decide) ?_
    refine X.aload_n (i := 0) rfl rfl dX6_counted_100 (pc' := 101) rfl ?_
    refine X.getR fk_X6_8 xcl_6 dX6_counted_101 hL.1.1 hL.1.2.1 (pc' := 104) rfl ?_
    refine X.iload_n (i := 1) rfl rfl dX6_counted_104 (pc' := 105) rfl ?_
    refine X.bipush (by decide +kernel) dX6_counted_105 (pc' := 107) rfl ?_
    refine X.isub dX6_counted_107 (pc' := 108) rfl ?_
    refine X.iald (x := aSt (lA L) (w - 6)) dX6_counted_108 hL.1.2.2.1 (by omega) (by omega) ⟨by omega, by omega⟩ (mI_at (mSt (w - 6) (by omega) (by omega)) (by omega)) (pc' := 109) rfl (fun r12 => ?_)
    obtain ⟨r12a, r12b⟩ := r12
    refine X.iret dX6_counted_109 (Or.inl rfl) (Nat.le_of_ble_eq_true rfl) (Nat.le_of_ble_eq_true rfl) ?_
    subst hPR
    subst sw1
    exact ⟨rfl, _, rfl, rfl⟩
  · refine X.tableIn (tgt := 100) (off := 99) dX6_counted_1 ⟨by omega, by omega⟩ (by omega) (by omega) (by rw [sw1]; rfl) (by decide) ?_
    refine X.aload_n (i := 0) rfl rfl dX6_counted_100 (pc' := 101) rfl ?_
    refine X.getR fk_X6_8 xcl_6 dX6_counted_101 hL.1.1 hL.1.2.1 (pc' := 104) rfl ?_
    refine X.iload_n (i := 1) rfl rfl dX6_counted_104 (pc' := 105) rfl ?_
    refine X.bipush (by decide +kernel) dX6_counted_105 (pc' := 107) rfl ?_
    refine X.isub dX6_counted_107 (pc' := 108) rfl ?_
    refine X.iald (x := aSt (lA L) (w - 6)) dX6_counted_108 hL.1.2.2.1 (by omega) (by omega) ⟨by omega, by omega⟩ (mI_at (mSt (w - 6) (by omega) (by omega)) (by omega)) (pc' := 109) rfl (fun r13 => ?_)
    obtain ⟨r13a, r13b⟩ := r13
    refine X.iret dX6_counted_109 (Or.inl rfl) (Nat.le_of_ble_eq_true rfl) (Nat.le_of_ble_eq_true rfl) ?_
    subst hPR
    subst sw1
    exact ⟨rfl, _, rfl, rfl⟩
  · refine X.tableIn (tgt := 100) (off := 99) dX6_counted_1 ⟨by omega, by omega⟩ (by omega) (by omega) (by rw [sw1]; rfl) (by decide) ?_
    refine X.aload_n (i := 0) rfl rfl dX6_counted_100 (pc' := 101) rfl ?_
    refine X.getR fk_X6_8 xcl_6 dX6_counted_101 hL.1.1 hL.1.2.1 (pc' := 104) rfl ?_
    refine X.iload_n (i := 1) rfl rfl dX6_counted_104 (pc' := 105) rfl ?_
    refine X.bipush (by decide +kernel) dX6_counted_105 (pc' := 107) rfl ?_
    refine X.isub dX6_counted_107 (pc' := 108) rfl ?_
    refine X.iald (x := aSt (lA L) (w - 6)) dX6_counted_108 hL.1.2.2.1 (by omega) (by omega) ⟨by omega, by omega⟩ (mI_at (mSt (w - 6) (by omega) (by omega)) (by omega)) (pc' := 109) rfl (fun r14 => ?_)
    obtain ⟨r14a, r14b⟩ := r14
    refine X.iret dX6_counted_109 (Or.inl rfl) (Nat.le_of_ble_eq_true rfl) (Nat.le_of_ble_eq_true rfl) ?_
    subst hPR
    subst sw1
    exact ⟨rfl, _, rfl, rfl⟩
  · refine X.tableIn (tgt := 95) (off := 94) dX6_counted_1 ⟨by omega, by omega⟩ (by omega) (by omega) (by rw [sw1]; rfl) (by decide) ?_
    refine X.aload_n (i := 0) rfl rfl dX6_counted_95 (pc' := 96) rfl ?_
    refine X.getI (x := mI h m 1) fk_X6_25 xcl_6 dX6_counted_96 (by decide) hL.1.1 rfl (pc' := 99) rfl (fun r15 => ?_)
    obtain ⟨r15a, r15b⟩ := r15
    refine X.iret dX6_counted_99 (Or.inl rfl) (Nat.le_of_ble_eq_true rfl) (Nat.le_of_ble_eq_true rfl) ?_
    subst hPR
    subst sw1
    exact ⟨rfl, _, rfl, hz⟩
