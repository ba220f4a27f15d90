set_option maxHeartbeats 40000000 in
set_option maxRecDepth 100000 in
theorem y_loop {Ω : xO} {Q : State → Prop} {p : Program} {e : Env} {s : State} {m0 : MethodId} {args : Array Value} {below : List Frame} {meth : Method} {c : Code} {b Ls : Nat} {xs : Nat → Int32} (cx : yCx RL cL_law 15 (some .boolean) p s m0 args meth c) (wd : xWd Ω s) (sc : yScr Ω s b Ls xs) (hLs : Ls ≤ 260) {x lo : Nat} (fin : ∀ (kc ks : Nat) (ls : List (Option xV)) (h : xM), kc ≤ 600130 → ks ≤ 7301080 → Y Ω room_1 Q p e s m0 args below meth c 15 kc ks 450 ls [vi 1] h) :
    ∀ (n : Nat) (i : Int) (kc ks : Nat) (h : xM) (L : lS), (30 - i).toNat < n → 0 ≤ i → i ≤ 30 → (kc : Int) ≤ 1000 + 480 * i → (ks : Int) ≤ 40000 + 65000 * i → EL h x lo L → lI L → Y Ω room_1 Q p e s m0 args below meth c 15 kc ks 41 [some (rf b), some (rf x), some (vi 1), some (vi i), none, none, none, none, none, none, none, none, none, none, none] [] h := by
  intro n
  induction n with
  | zero => intro i kc ks h L hm; omega
  | succ n ih =>
    intro i kc ks h L hm hi0 hi30 hkc hks hE hI
    have okA := hE.2.1.1.2.1
    have okB := okA.1
    have okN := okA.2.1
    have hz := hE.2.2.1.2.2.1
    refine Y.iload_n cx wd (i := 3) rfl rfl dL_law_41 (pc' := 42) rfl ?_
    refine Y.bipush cx wd (by decide +kernel) dL_law_42 (pc' := 44) rfl ?_
    refine Y.icmp_ge cx wd (tgt := 434) dL_law_44 ⟨by omega, by omega⟩ ⟨by omega, by omega⟩ (by decide) (pc' := 47) rfl (fun c44 => ?_) (fun c44 => ?_)
    · refine Y.iload_n cx wd (i := 2) rfl rfl dL_law_434 (pc' := 435) rfl ?_
      refine Y.if_eq cx wd (tgt := 449) dL_law_435 ⟨by omega, by omega⟩ (by decide) (pc' := 438) rfl (fun c435 => by exfalso; omega) (fun c435 => ?_)
      refine Y.aload_n cx wd (i := 1) rfl rfl dL_law_438 (pc' := 439) rfl ?_
      refine Y.callS cx wd (rm := rm_L_hangs) (As := [rf x]) (st := []) dL_law_439 ck_L_121 rfl rfl ⟨Nat.le_of_ble_eq_true rfl, Nat.le_of_ble_eq_true rfl⟩ (show kc + 48 ≤ 600130 by omega) (show ks + 288 ≤ 7301080 by omega) (Nat.le_of_ble_eq_true rfl) (pc' := 442) rfl (k_L_hangs hE hI.1) (fun q1 hq1 eq1 => ?_)
      obtain ⟨rfl, hEq1, -⟩ := eq1
      refine Y.if_eq cx wd (tgt := 449) dL_law_442 ⟨by omega, by omega⟩ (by decide) (pc' := 445) rfl (fun c442 => by exfalso; omega) (fun c442 => ?_)
      refine Y.iconst cx wd dL_law_445 (pc' := 446) rfl ?_
      refine Y.goto cx wd (tgt := 450) dL_law_446 (by decide) ?_
      exact fin _ _ _ _ (show kc + 48 ≤ 600130 by omega) (show ks + 288 ≤ 7301080 by omega)
    · refine Y.iload_n cx wd (i := 2) rfl rfl dL_law_47 (pc' := 48) rfl ?_
      refine Y.if_eq cx wd (tgt := 434) dL_law_48 ⟨by omega, by omega⟩ (by decide) (pc' := 51) rfl (fun c48 => by exfalso; omega) (fun c48 => ?_)
      refine Y.aload_n cx wd (i := 0) rfl rfl dL_law_51 (pc' := 52) rfl ?_
      refine Y.iload_n cx wd (i := 3) rfl rfl dL_law_52 (pc' := 53) rfl ?_
      refine Y.callC cx wd sc (rm := rm_L_cell) (As := [rf b, vi i]) (st := []) dL_law_53 ck_L_107 rfl rfl ⟨Nat.le_of_ble_eq_true rfl, Nat.le_of_ble_eq_true rfl⟩ (show kc + 0 ≤ 600130 by omega) (show ks + 0 ≤ 7301080 by omega) (Nat.le_of_ble_eq_true rfl) (pc' := 56) rfl (k_L_cell ⟨by omega, by omega⟩ hLs) (fun q2 hq2 eq2 => ?_)
      obtain ⟨rfl, y, rfl, hy⟩ := eq2
      refine Y.istore cx wd (i := 4) (ls' := [some (rf b), some (rf x), some (vi 1), some (vi i), some (vi y), none, none, none, none, none, none, none, none, none, none]) (hd := dL_law_56) (by decide) rfl rfl (pc' := 58) rfl ?_
      refine Y.aload_n cx wd (i := 1) rfl rfl dL_law_58 (pc' := 59) rfl ?_
      refine Y.callV cx wd (ci := 5) (a := x) (rm := rm_X5_digest) (As := []) (st := []) dL_law_59 ck_L_111 rfl (by decide) hE.1.1 rfl rfl ⟨Nat.le_of_ble_eq_true rfl, Nat.le_of_ble_eq_true rfl⟩ (show kc + 1 ≤ 600130 by omega) (show ks + 1 ≤ 7301080 by omega) (Nat.le_of_ble_eq_true rfl) (pc' := 62) rfl (k_X5_digest hE) (fun q3 hq3 eq3 => ?_)
      obtain ⟨rfl, hEq3, -⟩ := eq3
      refine Y.lstore cx wd (i := 5) (ls' := [some (rf b), some (rf x), some (vi 1), some (vi i), some (vi y), some (vl (dig L)), none, none, none, none, none, none, none, none, none]) (hd := dL_law_62) (by decide) rfl rfl (pc' := 64) rfl ?_
      refine Y.aload_n cx wd (i := 1) rfl rfl dL_law_64 (pc' := 65) rfl ?_
      refine Y.bipush cx wd (by decide +kernel) dL_law_65 (pc' := 67) rfl ?_
      refine Y.callSW cx wd (rm := rm_L_count0) (As := [rf x, vi 9]) (st := []) dL_law_67 ckS_count rfl rfl ⟨Nat.le_of_ble_eq_true rfl, Nat.le_of_ble_eq_true rfl⟩ (show kc + 1 + 0 ≤ 600130 by omega) (show ks + 1 + 0 ≤ 7301080 by omega) (Nat.le_of_ble_eq_true rfl) (pc' := 70) rfl (k_L_count0 hEq3 ⟨by omega, by omega⟩ (by omega)) (fun q4 hq4 eq4 => ?_)
      obtain ⟨rfl, wq4⟩ := eq4
      obtain rfl : q4 = some (vi (lZ L)) := wq4.trans (by rfl)
      refine Y.gen (fun st hst => ?_)
      refine Y.istore cx wd (i := 7) (ls' := [some (rf b), some (rf x), some (vi 1), some (vi i), some (vi y), some (vl (dig L)), none, some (vi st), none, none, none, none, none, none, none]) (hd := dL_law_70) (by decide) rfl rfl (pc' := 72) rfl ?_
      refine Y.iload cx wd (i := 4) rfl dL_law_72 (pc' := 74) rfl ?_
      refine Y.iconst cx wd dL_law_74 (pc' := 75) rfl ?_
      refine Y.idiv cx wd ⟨by omega, by omega⟩ (by omega) ⟨by omega, by omega⟩ (by omega) dL_law_75 (pc' := 76) rfl ?_
      refine Y.bipush cx wd (by decide +kernel) dL_law_76 (pc' := 78) rfl ?_
      refine Y.irem cx wd ⟨by omega, by omega⟩ (by omega) ⟨by omega, by omega⟩ (by omega) dL_law_78 (pc' := 79) rfl ?_
      refine Y.gen (fun se hse => ?_)
      refine Y.istore cx wd (i := 8) (ls' := [some (rf b), some (rf x), some (vi 1), some (vi i), some (vi y), some (vl (dig L)), none, some (vi st), some (vi se), none, none, none, none, none, none]) (hd := dL_law_79) (by decide) rfl rfl (pc' := 81) rfl ?_
      refine Y.aload_n cx wd (i := 1) rfl rfl dL_law_81 (pc' := 82) rfl ?_
      refine Y.iload cx wd (i := 8) rfl dL_law_82 (pc' := 84) rfl ?_
      refine Y.callSW cx wd (rm := rm_L_ifSilent0) (As := [rf x, vi se]) (st := []) dL_law_84 ckS_ifSilent rfl rfl ⟨Nat.le_of_ble_eq_true rfl, Nat.le_of_ble_eq_true rfl⟩ (show kc + 1 + 0 ≤ 600130 by omega) (show ks + 1 + 0 ≤ 7301080 by omega) (Nat.le_of_ble_eq_true rfl) (pc' := 87) rfl (k_L_ifSilent0 hEq3 ⟨by omega, by omega⟩ (by omega)) (fun q5 hq5 eq5 => ?_)
      obtain ⟨rfl, wq5⟩ := eq5
      obtain rfl : q5 = some (vi (vce (lA L) se (aB (lA L)))) := wq5.trans (by rfl)
      have hvr := vce_rng okA se (aB (lA L)) (by omega) (by omega)
      refine Y.gen (fun vo hvo => ?_)
      refine Y.istore cx wd (i := 9) (ls' := [some (rf b), some (rf x), some (vi 1), some (vi i), some (vi y), some (vl (dig L)), none, some (vi st), some (vi se), some (vi vo), none, none, none, none, none]) (hd := dL_law_87) (by decide) rfl rfl (pc' := 89) rfl ?_
      refine Y.aload_n cx wd (i := 1) rfl rfl dL_law_89 (pc' := 90) rfl ?_
      refine Y.iconst cx wd dL_law_90 (pc' := 91) rfl ?_
      refine Y.callSW cx wd (rm := rm_L_count0) (As := [rf x, vi 0]) (st := []) dL_law_91 ckS_count rfl rfl ⟨Nat.le_of_ble_eq_true rfl, Nat.le_of_ble_eq_true rfl⟩ (show kc + 1 + 0 ≤ 600130 by omega) (show ks + 1 + 0 ≤ 7301080 by omega) (Nat.le_of_ble_eq_true rfl) (pc' := 94) rfl (k_L_count0 hEq3 ⟨by omega, by omega⟩ (by omega)) (fun q6 hq6 eq6 => ?_)
      obtain ⟨rfl, wq6⟩ := eq6
      obtain rfl : q6 = some (vi (aB (lA L))) := wq6.trans (by rfl)
      refine Y.gen (fun be hbe => ?_)
      refine Y.istore cx wd (i := 10) (ls' := [some (rf b), some (rf x), some (vi 1), some (vi i), some (vi y), some (vl (dig L)), none, some (vi st), some (vi se), some (vi vo), some (vi be), none, none, none, none]) (hd := dL_law_94) (by decide) rfl rfl (pc' := 96) rfl ?_
      refine Y.aload_n cx wd (i := 1) rfl rfl dL_law_96 (pc' := 97) rfl ?_
      refine Y.iload cx wd (i := 4) rfl dL_law_97 (pc' := 99) rfl ?_
      refine Y.callS cx wd (rm := rm_L_acts) (As := [rf x, vi y]) (st := []) dL_law_99 ck_L_117 rfl rfl ⟨Nat.le_of_ble_eq_true rfl, Nat.le_of_ble_eq_true rfl⟩ (show kc + 1 + 186 ≤ 600130 by omega) (show ks + 1 + 34266 ≤ 7301080 by omega) (Nat.le_of_ble_eq_true rfl) (pc' := 102) rfl (k_L_acts hEq3 hI hy) (fun q7 hq7 eq7 => ?_)
      obtain ⟨r, rfl, hr, -, hc⟩ := eq7
      refine Y.istore cx wd (i := 11) (ls' := [some (rf b), some (rf x), some (vi 1), some (vi i), some (vi y), some (vl (dig L)), none, some (vi st), some (vi se), some (vi vo), some (vi be), some (vi r), none, none, none]) (hd := dL_law_102) (by decide) rfl rfl (pc' := 104) rfl ?_
      have J384 : ∀ (kj : Nat) (sj : Nat) (hj : xM) (Lj : lS), (kj ≤ kc + 460 ∧ sj ≤ ks + 62000 ∧ EL hj x lo Lj ∧ lI Lj) → Y Ω room_1 Q p e s m0 args below meth c 15 kj sj 384 [some (rf b), some (rf x), some (vi 1), some (vi i), none, none, none, none, none, none, none, none, none, none, none] [] hj := by
        intro kj sj hj Lj hJ
        obtain ⟨hk1, hk2, hEj, hIj⟩ := hJ
        clear hc
        refine Y.iload_n cx wd (i := 2) rfl rfl dL_law_384 (pc' := 385) rfl ?_
        refine Y.if_eq cx wd (tgt := 426) dL_law_385 ⟨by omega, by omega⟩ (by decide) (pc' := 388) rfl (fun c385 => by exfalso; omega) (fun c385 => ?_)
        refine Y.aload_n cx wd (i := 1) rfl rfl dL_law_388 (pc' := 389) rfl ?_
        obtain ⟨s1, hs1, hs1a, hs1b⟩ := shr_ge (A := lA Lj) hEj.2.1.1.2.1
        obtain ⟨s2, hs2, hs2a, hs2b⟩ := shr_le (A := lA Lj) hEj.2.1.1.2.1
        have hbs := bst_rng (A := lA Lj) hEj.2.1.1.2.1
        refine Y.callV cx wd (ci := 5) (a := x) (rm := rm_X5_heardShare) (As := []) (st := []) dL_law_389 ck_L_132 rfl (by decide) hEj.1.1 rfl rfl ⟨Nat.le_of_ble_eq_true rfl, Nat.le_of_ble_eq_true rfl⟩ (show kj + 0 ≤ 600130 by omega) (show sj + 0 ≤ 7301080 by omega) (Nat.le_of_ble_eq_true rfl) (pc' := 392) rfl (k_X5_heardShare hEj) (fun q8 hq8 eq8 => ?_)
        obtain ⟨rfl, rfl⟩ := eq8
        refine Y.dconst0 cx wd dL_law_392 (pc' := 393) rfl ?_
        refine Y.dcmp cx wd (z := s1) hs1 dL_law_393 (pc' := 394) rfl ?_
        refine Y.if_lt cx wd (tgt := 426) dL_law_394 ⟨by omega, by omega⟩ (by decide) (pc' := 397) rfl (fun c394 => by exfalso; omega) (fun c394 => ?_)
        refine Y.aload_n cx wd (i := 1) rfl rfl dL_law_397 (pc' := 398) rfl ?_
        refine Y.callV cx wd (ci := 5) (a := x) (rm := rm_X5_heardShare) (As := []) (st := []) dL_law_398 ck_L_132 rfl (by decide) hEj.1.1 rfl rfl ⟨Nat.le_of_ble_eq_true rfl, Nat.le_of_ble_eq_true rfl⟩ (show kj + 0 ≤ 600130 by omega) (show sj + 0 ≤ 7301080 by omega) (Nat.le_of_ble_eq_true rfl) (pc' := 401) rfl (k_X5_heardShare hEj) (fun q9 hq9 eq9 => ?_)
        obtain ⟨rfl, rfl⟩ := eq9
        refine Y.dconst1 cx wd dL_law_401 (pc' := 402) rfl ?_
        refine Y.dcmp cx wd (z := s2) hs2 dL_law_402 (pc' := 403) rfl ?_
        refine Y.if_gt cx wd (tgt := 426) dL_law_403 ⟨by omega, by omega⟩ (by decide) (pc' := 406) rfl (fun c403 => by exfalso; omega) (fun c403 => ?_)
        refine Y.aload_n cx wd (i := 1) rfl rfl dL_law_406 (pc' := 407) rfl ?_
        refine Y.callV cx wd (ci := 5) (a := x) (rm := rm_X5_bestSeat) (As := []) (st := []) dL_law_407 ck_L_104 rfl (by decide) hEj.1.1 rfl rfl ⟨Nat.le_of_ble_eq_true rfl, Nat.le_of_ble_eq_true rfl⟩ (show kj + 0 ≤ 600130 by omega) (show sj + 0 ≤ 7301080 by omega) (Nat.le_of_ble_eq_true rfl) (pc' := 410) rfl (k_X5_bestSeat hEj) (fun q10 hq10 eq10 => ?_)
        obtain ⟨rfl, rfl⟩ := eq10
        refine Y.if_lt cx wd (tgt := 426) dL_law_410 ⟨by omega, by omega⟩ (by decide) (pc' := 413) rfl (fun c410 => by exfalso; omega) (fun c410 => ?_)
        refine Y.aload_n cx wd (i := 1) rfl rfl dL_law_413 (pc' := 414) rfl ?_
        refine Y.callV cx wd (ci := 5) (a := x) (rm := rm_X5_bestSeat) (As := []) (st := []) dL_law_414 ck_L_104 rfl (by decide) hEj.1.1 rfl rfl ⟨Nat.le_of_ble_eq_true rfl, Nat.le_of_ble_eq_true rfl⟩ (show kj + 0 ≤ 600130 by omega) (show sj + 0 ≤ 7301080 by omega) (Nat.le_of_ble_eq_true rfl) (pc' := 417) rfl (k_X5_bestSeat hEj) (fun q11 hq11 eq11 => ?_)
        obtain ⟨rfl, rfl⟩ := eq11
        refine Y.bipush cx wd (by decide +kernel) dL_law_417 (pc' := 419) rfl ?_
        refine Y.icmp_ge cx wd (tgt := 426) dL_law_419 ⟨by omega, by omega⟩ ⟨by omega, by omega⟩ (by decide) (pc' := 422) rfl (fun c419 => by exfalso; omega) (fun c419 => ?_)
        refine Y.iconst cx wd dL_law_422 (pc' := 423) rfl ?_
        refine Y.goto cx wd (tgt := 427) dL_law_423 (by decide) ?_
        refine Y.istore_n cx wd (i := 2) (ls' := [some (rf b), some (rf x), some (vi 1), some (vi i), none, none, none, none, none, none, none, none, none, none, none]) (hi := rfl) (hd := dL_law_427) (by decide) rfl rfl (pc' := 428) rfl ?_
        refine Y.iinc cx wd (i := 3) (ls' := [some (rf b), some (rf x), some (vi 1), some (vi (i + 1)), none, none, none, none, none, none, none, none, none, none, none]) dL_law_428 rfl (by decide) rfl rfl (pc' := 431) rfl ?_
        refine Y.goto cx wd (tgt := 41) dL_law_431 (by decide) ?_
        exact ih (i + 1) kj sj hj Lj (by omega) (by omega) (by omega) (by omega) (by omega) hEj hIj
      refine Y.iload cx wd (i := 11) rfl dL_law_104 (pc' := 106) rfl ?_
      refine Y.ldcI cx wd (v := (-2000000)) dL_law_106 kL_120 (pc' := 108) rfl ?_
      refine Y.icmp_ge cx wd (tgt := 130) dL_law_108 ⟨by omega, by omega⟩ ⟨by omega, by omega⟩ (by decide) (pc' := 111) rfl (fun c108 => ?_) (fun c108 => ?_)
      · obtain ⟨A1, hE2, hA1, hp⟩ := (hc.resolve_left (fun z => by have := z.1; omega)).2
        obtain ⟨L1, hL1⟩ : ∃ L1, L1 = sA (sSave L) A1 := ⟨_, rfl⟩
        rw [← hL1] at hE2
        have hI1 : lI L1 := by rw [hL1]; exact lI_save hI hz hA1
        have a1 : lA L1 = A1 := by rw [hL1]; rfl
        have z1 : lZ L1 = psz (lZ L) := by rw [hL1]; rfl
        have v1 : lSv L1 (lZ L1 - 1) = lA L := by rw [hL1]; exact psh_last
        have t1 : L1.2.2.2 = L.2.2.2 := by rw [hL1]; rfl
        have hpz := psz_rng hz
        clear hc
        have J226 : ∀ (kj : Nat) (sj : Nat) (hj : xM), (kj ≤ kc + 255 ∧ sj ≤ ks + 34900 ∧ EL hj x lo L1) → Y Ω room_1 Q p e s m0 args below meth c 15 kj sj 226 [some (rf b), some (rf x), some (vi 1), some (vi i), some (vi y), some (vl (dig L)), none, some (vi st), some (vi se), some (vi vo), some (vi be), none, none, none, none] [] hj := by
          intro kj sj hj hJ
          obtain ⟨hk1, hk2, hE6⟩ := hJ
          refine Y.iload_n cx wd (i := 2) rfl rfl dL_law_226 (pc' := 227) rfl ?_
          refine Y.if_eq cx wd (tgt := 384) dL_law_227 ⟨by omega, by omega⟩ (by decide) (pc' := 230) rfl (fun c227 => by exfalso; omega) (fun c227 => ?_)
          refine Y.iload cx wd (i := 4) rfl dL_law_230 (pc' := 232) rfl ?_
          refine Y.iconst cx wd dL_law_232 (pc' := 233) rfl ?_
          refine Y.idiv cx wd ⟨by omega, by omega⟩ (by omega) ⟨by omega, by omega⟩ (by omega) dL_law_233 (pc' := 234) rfl ?_
          refine Y.iconst cx wd dL_law_234 (pc' := 235) rfl ?_
          refine Y.irem cx wd ⟨by omega, by omega⟩ (by omega) ⟨by omega, by omega⟩ (by omega) dL_law_235 (pc' := 236) rfl ?_
          refine Y.if_ne cx wd (tgt := 384) dL_law_236 ⟨by omega, by omega⟩ (by decide) (pc' := 239) rfl (fun c236 => ?_) (fun c236 => ?_)
          · refine Y.mask (bs := [true, true, true, true, false, false, false, false, false, false, false, false, false, false, false]) (ls' := [some (rf b), some (rf x), some (vi 1), some (vi i), none, none, none, none, none, none, none, none, none, none, none]) rfl ?_
            refine J384 kj sj hj L1 ?_
            exact ⟨by omega, by omega, hE6, hI1⟩
          · refine Y.aload_n cx wd (i := 1) rfl rfl dL_law_239 (pc' := 240) rfl ?_
            refine Y.callV cx wd (ci := 5) (a := x) (rm := rm_X5_digest) (As := []) (st := []) dL_law_240 ck_L_111 rfl (by decide) hE6.1.1 rfl rfl ⟨Nat.le_of_ble_eq_true rfl, Nat.le_of_ble_eq_true rfl⟩ (show kj + 1 ≤ 600130 by omega) (show sj + 1 ≤ 7301080 by omega) (Nat.le_of_ble_eq_true rfl) (pc' := 243) rfl (k_X5_digest hE6) (fun q12 hq12 eq12 => ?_)
            obtain ⟨rfl, hEq12, -⟩ := eq12
            refine Y.lstore cx wd (i := 12) (ls' := [some (rf b), some (rf x), some (vi 1), some (vi i), some (vi y), some (vl (dig L)), none, some (vi st), some (vi se), some (vi vo), some (vi be), none, some (vl (dig L1)), none, none]) (hd := dL_law_243) (by decide) rfl rfl (pc' := 245) rfl ?_
            refine Y.aload_n cx wd (i := 1) rfl rfl dL_law_245 (pc' := 246) rfl ?_
            refine Y.callV cx wd (ci := 5) (a := x) (rm := rm_X5_keep) (As := []) (st := []) dL_law_246 ck_L_129 rfl (by decide) hEq12.1.1 rfl rfl ⟨Nat.le_of_ble_eq_true rfl, Nat.le_of_ble_eq_true rfl⟩ (show kj + 1 + 29 ≤ 600130 by omega) (show sj + 1 + 5699 ≤ 7301080 by omega) (Nat.le_of_ble_eq_true rfl) (pc' := 249) rfl (k_X5_keep hEq12) (fun q13 hq13 eq13 => ?_)
            obtain ⟨rfl, hEq13, -⟩ := eq13
            refine Y.pop cx wd rfl dL_law_249 (pc' := 250) rfl ?_
            refine Y.aload_n cx wd (i := 1) rfl rfl dL_law_250 (pc' := 251) rfl ?_
            refine Y.callSW cx wd (rm := rm_L_undo) (As := [rf x]) (st := []) dL_law_251 ckS_undo rfl rfl ⟨Nat.le_of_ble_eq_true rfl, Nat.le_of_ble_eq_true rfl⟩ (show kj + 1 + 29 + 1 ≤ 600130 by omega) (show sj + 1 + 5699 + 6 ≤ 7301080 by omega) (Nat.le_of_ble_eq_true rfl) (pc' := 254) rfl (k_L_undo hEq13) (fun q14 hq14 eq14 => ?_)
            obtain ⟨lf, rfl, -, huq14⟩ := eq14
            have hz1 := psz_rng hz
            obtain ⟨L3, hL3⟩ : ∃ L3, L3 = sZ (sA (sK L1) (lSv (sK L1) (lZ (sK L1) - 1))) (lZ (sK L1) - 1) := ⟨_, rfl⟩
            have hlf : lf = psz (lZ L) - 1 ∧ EL hq14 x lo L3 := by
              rw [hL3]
              rcases huq14 with ⟨-, u1, u2⟩ | ⟨z, -⟩
              · exact ⟨by rw [← z1]; exact u1, u2⟩
              · exfalso
                rcases z with z | z | z
                · exact z.1 (show 0 < lZ L1 by omega)
                · exact z.2.1 trivial
                · exact z.2.2.1 trivial
            obtain ⟨hlf, hEq14⟩ := hlf
            have a3 : lA L3 = lA L := by rw [hL3]; exact v1
            have z3 : lZ L3 = psz (lZ L) - 1 := by rw [hL3, ← z1]; rfl
            have f3 : lKf L3 = 1 := by rw [hL3]; rfl
            have k3 : lK L3 = A1 := by rw [hL3]; exact a1
            have t3 : L3.2.2.2 = L.2.2.2 := by rw [hL3]; exact t1
            have i3 : lI L3 := by rw [hL3]; exact lI_undo (lI_keep hI1) (show 0 < lZ L1 by omega)
            have hz3 : 0 ≤ lZ L3 ∧ lZ L3 ≤ 6 := by omega
            refine Y.istore cx wd (i := 14) (ls' := [some (rf b), some (rf x), some (vi 1), some (vi i), some (vi y), some (vl (dig L)), none, some (vi st), some (vi se), some (vi vo), some (vi be), none, some (vl (dig L1)), none, some (vi lf)]) (hd := dL_law_254) (by decide) rfl rfl (pc' := 256) rfl ?_
            refine Y.iload cx wd (i := 14) rfl dL_law_256 (pc' := 258) rfl ?_
            refine Y.iload cx wd (i := 7) rfl dL_law_258 (pc' := 260) rfl ?_
            refine Y.bipush cx wd (by decide +kernel) dL_law_260 (pc' := 262) rfl ?_
            refine Y.icmp_ne cx wd (tgt := 269) dL_law_262 ⟨by omega, by omega⟩ ⟨by omega, by omega⟩ (by decide) (pc' := 265) rfl (fun c262 => ?_) (fun c262 => ?_)
            · refine Y.iload cx wd (i := 7) rfl dL_law_269 (pc' := 271) rfl ?_
              refine Y.icmp_ne cx wd (tgt := 324) dL_law_271 ⟨by omega, by omega⟩ ⟨by omega, by omega⟩ (by decide) (pc' := 274) rfl (fun c271 => by exfalso; omega) (fun c271 => ?_)
              refine Y.aload_n cx wd (i := 1) rfl rfl dL_law_274 (pc' := 275) rfl ?_
              refine Y.callSW cx wd (rm := rm_L_restore) (As := [rf x]) (st := []) dL_law_275 ckS_restore rfl rfl ⟨Nat.le_of_ble_eq_true rfl, Nat.le_of_ble_eq_true rfl⟩ (show kj + 1 + 29 + 1 + 30 ≤ 600130 by omega) (show sj + 1 + 5699 + 6 + 5705 ≤ 7301080 by omega) (Nat.le_of_ble_eq_true rfl) (pc' := 278) rfl (k_L_restore hEq14) (fun q15 hq15 eq15 => ?_)
              obtain ⟨r4, rfl, -, huq15⟩ := eq15
              obtain ⟨L4, hL4⟩ : ∃ L4, L4 = sA (sSave L3) (lK L3) := ⟨_, rfl⟩
              have hr4 : r4 = aB A1 ∧ EL hq15 x lo L4 := by
                rw [hL4, ← k3]
                rcases huq15 with ⟨-, u1, u2⟩ | ⟨z, -⟩
                · exact ⟨u1, u2⟩
                · exfalso
                  rcases z with z | z | z
                  · exact z.1 f3
                  · exact z.2.1 trivial
                  · exact z.2.2.1 trivial
              obtain ⟨hr4, hEq15⟩ := hr4
              have a4 : lA L4 = A1 := by rw [hL4]; exact k3
              have z4 : lZ L4 = psz (lZ L3) := by rw [hL4]; rfl
              have v4 : lSv L4 (lZ L4 - 1) = lA L3 := by rw [hL4]; exact psh_last
              have f4 : lKf L4 = 1 := by rw [hL4]; exact f3
              have k4 : lK L4 = A1 := by rw [hL4]; exact k3
              have t4 : L4.2.2.2 = L.2.2.2 := by rw [hL4]; exact t3
              have i4 : lI L4 := by rw [hL4]; exact lI_save i3 hz3 (i3.2.2 f3)
              have pz4 := psz_rng hz3
              have hz4 : 0 ≤ lZ L4 ∧ lZ L4 ≤ 6 := by omega
              have hB4 : 0 ≤ aB A1 ∧ aB A1 ≤ 400 := by
                have := hEq15.2.1.1.2.1.1
                rw [a4] at this
                exact this
              refine Y.aload_n cx wd (i := 1) rfl rfl dL_law_278 (pc' := 279) rfl ?_
              refine Y.iconst cx wd dL_law_279 (pc' := 280) rfl ?_
              refine Y.callSW cx wd (rm := rm_L_count0) (As := [rf x, vi 0]) (st := [vi r4]) dL_law_280 ckS_count rfl rfl ⟨Nat.le_of_ble_eq_true rfl, Nat.le_of_ble_eq_true rfl⟩ (show kj + 1 + 29 + 1 + 30 + 0 ≤ 600130 by omega) (show sj + 1 + 5699 + 6 + 5705 + 0 ≤ 7301080 by omega) (Nat.le_of_ble_eq_true rfl) (pc' := 283) rfl (k_L_count0 hEq15 ⟨by omega, by omega⟩ (by omega)) (fun q16 hq16 eq16 => ?_)
              obtain ⟨rfl, wq16⟩ := eq16
              obtain rfl : q16 = some (vi (aB A1)) := wq16.trans (by rw [← a4]; rfl)
              refine Y.icmp_ne cx wd (tgt := 324) dL_law_283 ⟨by omega, by omega⟩ ⟨by omega, by omega⟩ (by decide) (pc' := 286) rfl (fun c283 => by exfalso; omega) (fun c283 => ?_)
              refine Y.iload cx wd (i := 7) rfl dL_law_286 (pc' := 288) rfl ?_
              refine Y.bipush cx wd (by decide +kernel) dL_law_288 (pc' := 290) rfl ?_
              refine Y.icmp_ge cx wd (tgt := 309) dL_law_290 ⟨by omega, by omega⟩ ⟨by omega, by omega⟩ (by decide) (pc' := 293) rfl (fun c290 => by exfalso; omega) (fun c290 => ?_)
              refine Y.aload_n cx wd (i := 1) rfl rfl dL_law_293 (pc' := 294) rfl ?_
              refine Y.bipush cx wd (by decide +kernel) dL_law_294 (pc' := 296) rfl ?_
              refine Y.callSW cx wd (rm := rm_L_count0) (As := [rf x, vi 9]) (st := []) dL_law_296 ckS_count rfl rfl ⟨Nat.le_of_ble_eq_true rfl, Nat.le_of_ble_eq_true rfl⟩ (show kj + 1 + 29 + 1 + 30 + 0 ≤ 600130 by omega) (show sj + 1 + 5699 + 6 + 5705 + 0 ≤ 7301080 by omega) (Nat.le_of_ble_eq_true rfl) (pc' := 299) rfl (k_L_count0 hEq15 ⟨by omega, by omega⟩ (by omega)) (fun q17 hq17 eq17 => ?_)
              obtain ⟨rfl, wq17⟩ := eq17
              obtain rfl : q17 = some (vi (lZ L4)) := wq17.trans (by rfl)
              refine Y.iload cx wd (i := 14) rfl dL_law_299 (pc' := 301) rfl ?_
              refine Y.iconst cx wd dL_law_301 (pc' := 302) rfl ?_
              refine Y.iadd cx wd dL_law_302 (pc' := 303) rfl ?_
              refine Y.icmp_ne cx wd (tgt := 324) dL_law_303 ⟨by omega, by omega⟩ ⟨by omega, by omega⟩ (by decide) (pc' := 306) rfl (fun c303 => by exfalso; omega) (fun c303 => ?_)
              refine Y.goto cx wd (tgt := 320) dL_law_306 (by decide) ?_
              refine Y.iconst cx wd dL_law_320 (pc' := 321) rfl ?_
              refine Y.goto cx wd (tgt := 325) dL_law_321 (by decide) ?_
              refine Y.istore_n cx wd (i := 2) (ls' := [some (rf b), some (rf x), some (vi 1), some (vi i), some (vi y), some (vl (dig L)), none, some (vi st), some (vi se), some (vi vo), some (vi be), none, some (vl (dig L1)), none, some (vi lf)]) (hi := rfl) (hd := dL_law_325) (by decide) rfl rfl (pc' := 326) rfl ?_
              refine Y.iload_n cx wd (i := 2) rfl rfl dL_law_326 (pc' := 327) rfl ?_
              refine Y.if_eq cx wd (tgt := 382) dL_law_327 ⟨by omega, by omega⟩ (by decide) (pc' := 330) rfl (fun c327 => by exfalso; omega) (fun c327 => ?_)
              refine Y.iload cx wd (i := 7) rfl dL_law_330 (pc' := 332) rfl ?_
              refine Y.bipush cx wd (by decide +kernel) dL_law_332 (pc' := 334) rfl ?_
              refine Y.icmp_eq cx wd (tgt := 347) dL_law_334 ⟨by omega, by omega⟩ ⟨by omega, by omega⟩ (by decide) (pc' := 337) rfl (fun c334 => by exfalso; omega) (fun c334 => ?_)
              refine Y.aload_n cx wd (i := 1) rfl rfl dL_law_337 (pc' := 338) rfl ?_
              refine Y.callV cx wd (ci := 5) (a := x) (rm := rm_X5_digest) (As := []) (st := []) dL_law_338 ck_L_111 rfl (by decide) hEq15.1.1 rfl rfl ⟨Nat.le_of_ble_eq_true rfl, Nat.le_of_ble_eq_true rfl⟩ (show kj + 1 + 29 + 1 + 30 + 1 ≤ 600130 by omega) (show sj + 1 + 5699 + 6 + 5705 + 1 ≤ 7301080 by omega) (Nat.le_of_ble_eq_true rfl) (pc' := 341) rfl (k_X5_digest hEq15) (fun q18 hq18 eq18 => ?_)
              obtain ⟨rfl, hEq18, -⟩ := eq18
              refine Y.lload cx wd (i := 12) rfl dL_law_341 (pc' := 343) rfl ?_
              refine Y.lcmp cx wd dL_law_343 (pc' := 344) rfl (fun _ => ?_) (fun ne => absurd (show dig L4 = dig L1 from dig_eq (L := L1) (L' := L4) (a4.trans a1.symm) (by omega) (t4.trans t1.symm)) ne)
              refine Y.if_ne cx wd (tgt := 382) dL_law_344 ⟨by omega, by omega⟩ (by decide) (pc' := 347) rfl (fun c344 => by exfalso; omega) (fun c344 => ?_)
              refine Y.aload_n cx wd (i := 1) rfl rfl dL_law_347 (pc' := 348) rfl ?_
              refine Y.callSW cx wd (rm := rm_L_undo) (As := [rf x]) (st := []) dL_law_348 ckS_undo rfl rfl ⟨Nat.le_of_ble_eq_true rfl, Nat.le_of_ble_eq_true rfl⟩ (show kj + 1 + 29 + 1 + 30 + 1 + 1 ≤ 600130 by omega) (show sj + 1 + 5699 + 6 + 5705 + 1 + 6 ≤ 7301080 by omega) (Nat.le_of_ble_eq_true rfl) (pc' := 351) rfl (k_L_undo hEq18) (fun q19 hq19 eq19 => ?_)
              obtain ⟨r5, rfl, -, huq19⟩ := eq19
              obtain ⟨L5, hL5⟩ : ∃ L5, L5 = sZ (sA L4 (lSv L4 (lZ L4 - 1))) (lZ L4 - 1) := ⟨_, rfl⟩
              have hr5 : r5 = lZ L4 - 1 ∧ EL hq19 x lo L5 := by
                rw [hL5]
                rcases huq19 with ⟨-, u1, u2⟩ | ⟨z, -⟩
                · exact ⟨u1, u2⟩
                · exfalso
                  rcases z with z | z | z
                  · exact z.1 (by omega)
                  · exact z.2.1 trivial
                  · exact z.2.2.1 trivial
              obtain ⟨hr5, hEq19⟩ := hr5
              have a5 : lA L5 = lA L := by rw [hL5]; exact v4.trans a3
              have z5 : lZ L5 = lZ L4 - 1 := by rw [hL5]; rfl
              have f5 : lKf L5 = 1 := by rw [hL5]; exact f4
              have k5 : lK L5 = A1 := by rw [hL5]; exact k4
              have t5 : L5.2.2.2 = L.2.2.2 := by rw [hL5]; exact t4
              have i5 : lI L5 := by rw [hL5]; exact lI_undo i4 (by omega)
              have hz5 : 0 ≤ lZ L5 ∧ lZ L5 ≤ 6 := by omega
              refine Y.if_lt cx wd (tgt := 382) dL_law_351 ⟨by omega, by omega⟩ (by decide) (pc' := 354) rfl (fun c351 => by exfalso; omega) (fun c351 => ?_)
              refine Y.iload cx wd (i := 7) rfl dL_law_354 (pc' := 356) rfl ?_
              refine Y.bipush cx wd (by decide +kernel) dL_law_356 (pc' := 358) rfl ?_
              refine Y.icmp_eq cx wd (tgt := 371) dL_law_358 ⟨by omega, by omega⟩ ⟨by omega, by omega⟩ (by decide) (pc' := 361) rfl (fun c358 => by exfalso; omega) (fun c358 => ?_)
              refine Y.aload_n cx wd (i := 1) rfl rfl dL_law_361 (pc' := 362) rfl ?_
              refine Y.callV cx wd (ci := 5) (a := x) (rm := rm_X5_digest) (As := []) (st := []) dL_law_362 ck_L_111 rfl (by decide) hEq19.1.1 rfl rfl ⟨Nat.le_of_ble_eq_true rfl, Nat.le_of_ble_eq_true rfl⟩ (show kj + 1 + 29 + 1 + 30 + 1 + 1 + 1 ≤ 600130 by omega) (show sj + 1 + 5699 + 6 + 5705 + 1 + 6 + 1 ≤ 7301080 by omega) (Nat.le_of_ble_eq_true rfl) (pc' := 365) rfl (k_X5_digest hEq19) (fun q20 hq20 eq20 => ?_)
              obtain ⟨rfl, hEq20, -⟩ := eq20
              refine Y.lload cx wd (i := 5) rfl dL_law_365 (pc' := 367) rfl ?_
              refine Y.lcmp cx wd dL_law_367 (pc' := 368) rfl (fun _ => ?_) (fun ne => absurd (show dig L5 = dig L from dig_eq (L := L) (L' := L5) a5 (by omega) t5) ne)
              refine Y.if_ne cx wd (tgt := 382) dL_law_368 ⟨by omega, by omega⟩ (by decide) (pc' := 371) rfl (fun c368 => by exfalso; omega) (fun c368 => ?_)
              refine Y.aload_n cx wd (i := 1) rfl rfl dL_law_371 (pc' := 372) rfl ?_
              refine Y.callSW cx wd (rm := rm_L_restore) (As := [rf x]) (st := []) dL_law_372 ckS_restore rfl rfl ⟨Nat.le_of_ble_eq_true rfl, Nat.le_of_ble_eq_true rfl⟩ (show kj + 1 + 29 + 1 + 30 + 1 + 1 + 1 + 30 ≤ 600130 by omega) (show sj + 1 + 5699 + 6 + 5705 + 1 + 6 + 1 + 5705 ≤ 7301080 by omega) (Nat.le_of_ble_eq_true rfl) (pc' := 375) rfl (k_L_restore hEq20) (fun q21 hq21 eq21 => ?_)
              obtain ⟨r6, rfl, -, huq21⟩ := eq21
              obtain ⟨L6, hL6⟩ : ∃ L6, L6 = sA (sSave L5) (lK L5) := ⟨_, rfl⟩
              have hr6 : r6 = aB A1 ∧ EL hq21 x lo L6 := by
                rw [hL6, ← k5]
                rcases huq21 with ⟨-, u1, u2⟩ | ⟨z, -⟩
                · exact ⟨u1, u2⟩
                · exfalso
                  rcases z with z | z | z
                  · exact z.1 f5
                  · exact z.2.1 trivial
                  · exact z.2.2.1 trivial
              obtain ⟨hr6, hEq21⟩ := hr6
              have a6 : lA L6 = A1 := by rw [hL6]; exact k5
              have z6 : lZ L6 = psz (lZ L5) := by rw [hL6]; rfl
              have v6 : lSv L6 (lZ L6 - 1) = lA L5 := by rw [hL6]; exact psh_last
              have f6 : lKf L6 = 1 := by rw [hL6]; exact f5
              have k6 : lK L6 = A1 := by rw [hL6]; exact k5
              have t6 : L6.2.2.2 = L.2.2.2 := by rw [hL6]; exact t5
              have i6 : lI L6 := by rw [hL6]; exact lI_save i5 hz5 (i5.2.2 f5)
              have pz6 := psz_rng hz5
              have hz6 : 0 ≤ lZ L6 ∧ lZ L6 ≤ 6 := by omega
              have hB6 : 0 ≤ aB A1 ∧ aB A1 ≤ 400 := by
                have := hEq21.2.1.1.2.1.1
                rw [a6] at this
                exact this
              refine Y.if_lt cx wd (tgt := 382) dL_law_375 ⟨by omega, by omega⟩ (by decide) (pc' := 378) rfl (fun c375 => by exfalso; omega) (fun c375 => ?_)
              refine Y.iconst cx wd dL_law_378 (pc' := 379) rfl ?_
              refine Y.goto cx wd (tgt := 383) dL_law_379 (by decide) ?_
              refine Y.istore_n cx wd (i := 2) (ls' := [some (rf b), some (rf x), some (vi 1), some (vi i), some (vi y), some (vl (dig L)), none, some (vi st), some (vi se), some (vi vo), some (vi be), none, some (vl (dig L1)), none, some (vi lf)]) (hi := rfl) (hd := dL_law_383) (by decide) rfl rfl (pc' := 384) rfl ?_
              refine Y.mask (bs := [true, true, true, true, false, false, false, false, false, false, false, false, false, false, false]) (ls' := [some (rf b), some (rf x), some (vi 1), some (vi i), none, none, none, none, none, none, none, none, none, none, none]) rfl ?_
              refine J384 (kj + 1 + 29 + 1 + 30 + 1 + 1 + 1 + 30) (sj + 1 + 5699 + 6 + 5705 + 1 + 6 + 1 + 5705) hq21 L6 ?_
              exact ⟨by omega, by omega, hEq21, i6⟩
            · refine Y.iconst cx wd dL_law_265 (pc' := 266) rfl ?_
              refine Y.goto cx wd (tgt := 271) dL_law_266 (by decide) ?_
              refine Y.icmp_ne cx wd (tgt := 324) dL_law_271 ⟨by omega, by omega⟩ ⟨by omega, by omega⟩ (by decide) (pc' := 274) rfl (fun c271 => by exfalso; omega) (fun c271 => ?_)
              refine Y.aload_n cx wd (i := 1) rfl rfl dL_law_274 (pc' := 275) rfl ?_
              refine Y.callSW cx wd (rm := rm_L_restore) (As := [rf x]) (st := []) dL_law_275 ckS_restore rfl rfl ⟨Nat.le_of_ble_eq_true rfl, Nat.le_of_ble_eq_true rfl⟩ (show kj + 1 + 29 + 1 + 30 ≤ 600130 by omega) (show sj + 1 + 5699 + 6 + 5705 ≤ 7301080 by omega) (Nat.le_of_ble_eq_true rfl) (pc' := 278) rfl (k_L_restore hEq14) (fun q22 hq22 eq22 => ?_)
              obtain ⟨r4, rfl, -, huq22⟩ := eq22
              obtain ⟨L4, hL4⟩ : ∃ L4, L4 = sA (sSave L3) (lK L3) := ⟨_, rfl⟩
              have hr4 : r4 = aB A1 ∧ EL hq22 x lo L4 := by
                rw [hL4, ← k3]
                rcases huq22 with ⟨-, u1, u2⟩ | ⟨z, -⟩
                · exact ⟨u1, u2⟩
                · exfalso
                  rcases z with z | z | z
                  · exact z.1 f3
                  · exact z.2.1 trivial
                  · exact z.2.2.1 trivial
              obtain ⟨hr4, hEq22⟩ := hr4
              have a4 : lA L4 = A1 := by rw [hL4]; exact k3
              have z4 : lZ L4 = psz (lZ L3) := by rw [hL4]; rfl
              have v4 : lSv L4 (lZ L4 - 1) = lA L3 := by rw [hL4]; exact psh_last
              have f4 : lKf L4 = 1 := by rw [hL4]; exact f3
              have k4 : lK L4 = A1 := by rw [hL4]; exact k3
              have t4 : L4.2.2.2 = L.2.2.2 := by rw [hL4]; exact t3
              have i4 : lI L4 := by rw [hL4]; exact lI_save i3 hz3 (i3.2.2 f3)
              have pz4 := psz_rng hz3
              have hz4 : 0 ≤ lZ L4 ∧ lZ L4 ≤ 6 := by omega
              have hB4 : 0 ≤ aB A1 ∧ aB A1 ≤ 400 := by
                have := hEq22.2.1.1.2.1.1
                rw [a4] at this
                exact this
              refine Y.aload_n cx wd (i := 1) rfl rfl dL_law_278 (pc' := 279) rfl ?_
              refine Y.iconst cx wd dL_law_279 (pc' := 280) rfl ?_
              refine Y.callSW cx wd (rm := rm_L_count0) (As := [rf x, vi 0]) (st := [vi r4]) dL_law_280 ckS_count rfl rfl ⟨Nat.le_of_ble_eq_true rfl, Nat.le_of_ble_eq_true rfl⟩ (show kj + 1 + 29 + 1 + 30 + 0 ≤ 600130 by omega) (show sj + 1 + 5699 + 6 + 5705 + 0 ≤ 7301080 by omega) (Nat.le_of_ble_eq_true rfl) (pc' := 283) rfl (k_L_count0 hEq22 ⟨by omega, by omega⟩ (by omega)) (fun q23 hq23 eq23 => ?_)
              obtain ⟨rfl, wq23⟩ := eq23
              obtain rfl : q23 = some (vi (aB A1)) := wq23.trans (by rw [← a4]; rfl)
              refine Y.icmp_ne cx wd (tgt := 324) dL_law_283 ⟨by omega, by omega⟩ ⟨by omega, by omega⟩ (by decide) (pc' := 286) rfl (fun c283 => by exfalso; omega) (fun c283 => ?_)
              refine Y.iload cx wd (i := 7) rfl dL_law_286 (pc' := 288) rfl ?_
              refine Y.bipush cx wd (by decide +kernel) dL_law_288 (pc' := 290) rfl ?_
              refine Y.icmp_ge cx wd (tgt := 309) dL_law_290 ⟨by omega, by omega⟩ ⟨by omega, by omega⟩ (by decide) (pc' := 293) rfl (fun c290 => ?_) (fun c290 => by exfalso; omega)
              refine Y.aload_n cx wd (i := 1) rfl rfl dL_law_309 (pc' := 310) rfl ?_
              refine Y.bipush cx wd (by decide +kernel) dL_law_310 (pc' := 312) rfl ?_
              refine Y.callSW cx wd (rm := rm_L_count0) (As := [rf x, vi 9]) (st := []) dL_law_312 ckS_count rfl rfl ⟨Nat.le_of_ble_eq_true rfl, Nat.le_of_ble_eq_true rfl⟩ (show kj + 1 + 29 + 1 + 30 + 0 ≤ 600130 by omega) (show sj + 1 + 5699 + 6 + 5705 + 0 ≤ 7301080 by omega) (Nat.le_of_ble_eq_true rfl) (pc' := 315) rfl (k_L_count0 hEq22 ⟨by omega, by omega⟩ (by omega)) (fun q24 hq24 eq24 => ?_)
              obtain ⟨rfl, wq24⟩ := eq24
              obtain rfl : q24 = some (vi (lZ L4)) := wq24.trans (by rfl)
              refine Y.bipush cx wd (by decide +kernel) dL_law_315 (pc' := 317) rfl ?_
              refine Y.icmp_ne cx wd (tgt := 324) dL_law_317 ⟨by omega, by omega⟩ ⟨by omega, by omega⟩ (by decide) (pc' := 320) rfl (fun c317 => by exfalso; omega) (fun c317 => ?_)
              refine Y.iconst cx wd dL_law_320 (pc' := 321) rfl ?_
              refine Y.goto cx wd (tgt := 325) dL_law_321 (by decide) ?_
              refine Y.istore_n cx wd (i := 2) (ls' := [some (rf b), some (rf x), some (vi 1), some (vi i), some (vi y), some (vl (dig L)), none, some (vi st), some (vi se), some (vi vo), some (vi be), none, some (vl (dig L1)), none, some (vi lf)]) (hi := rfl) (hd := dL_law_325) (by decide) rfl rfl (pc' := 326) rfl ?_
              refine Y.iload_n cx wd (i := 2) rfl rfl dL_law_326 (pc' := 327) rfl ?_
              refine Y.if_eq cx wd (tgt := 382) dL_law_327 ⟨by omega, by omega⟩ (by decide) (pc' := 330) rfl (fun c327 => by exfalso; omega) (fun c327 => ?_)
              refine Y.iload cx wd (i := 7) rfl dL_law_330 (pc' := 332) rfl ?_
              refine Y.bipush cx wd (by decide +kernel) dL_law_332 (pc' := 334) rfl ?_
              refine Y.icmp_eq cx wd (tgt := 347) dL_law_334 ⟨by omega, by omega⟩ ⟨by omega, by omega⟩ (by decide) (pc' := 337) rfl (fun c334 => ?_) (fun c334 => by exfalso; omega)
              refine Y.aload_n cx wd (i := 1) rfl rfl dL_law_347 (pc' := 348) rfl ?_
              refine Y.callSW cx wd (rm := rm_L_undo) (As := [rf x]) (st := []) dL_law_348 ckS_undo rfl rfl ⟨Nat.le_of_ble_eq_true rfl, Nat.le_of_ble_eq_true rfl⟩ (show kj + 1 + 29 + 1 + 30 + 1 ≤ 600130 by omega) (show sj + 1 + 5699 + 6 + 5705 + 6 ≤ 7301080 by omega) (Nat.le_of_ble_eq_true rfl) (pc' := 351) rfl (k_L_undo hEq22) (fun q25 hq25 eq25 => ?_)
              obtain ⟨r5, rfl, -, huq25⟩ := eq25
              obtain ⟨L5, hL5⟩ : ∃ L5, L5 = sZ (sA L4 (lSv L4 (lZ L4 - 1))) (lZ L4 - 1) := ⟨_, rfl⟩
              have hr5 : r5 = lZ L4 - 1 ∧ EL hq25 x lo L5 := by
                rw [hL5]
                rcases huq25 with ⟨-, u1, u2⟩ | ⟨z, -⟩
                · exact ⟨u1, u2⟩
                · exfalso
                  rcases z with z | z | z
                  · exact z.1 (by omega)
                  · exact z.2.1 trivial
                  · exact z.2.2.1 trivial
              obtain ⟨hr5, hEq25⟩ := hr5
              have a5 : lA L5 = lA L := by rw [hL5]; exact v4.trans a3
              have z5 : lZ L5 = lZ L4 - 1 := by rw [hL5]; rfl
              have f5 : lKf L5 = 1 := by rw [hL5]; exact f4
              have k5 : lK L5 = A1 := by rw [hL5]; exact k4
              have t5 : L5.2.2.2 = L.2.2.2 := by rw [hL5]; exact t4
              have i5 : lI L5 := by rw [hL5]; exact lI_undo i4 (by omega)
              have hz5 : 0 ≤ lZ L5 ∧ lZ L5 ≤ 6 := by omega
              refine Y.if_lt cx wd (tgt := 382) dL_law_351 ⟨by omega, by omega⟩ (by decide) (pc' := 354) rfl (fun c351 => by exfalso; omega) (fun c351 => ?_)
              refine Y.iload cx wd (i := 7) rfl dL_law_354 (pc' := 356) rfl ?_
              refine Y.bipush cx wd (by decide +kernel) dL_law_356 (pc' := 358) rfl ?_
              refine Y.icmp_eq cx wd (tgt := 371) dL_law_358 ⟨by omega, by omega⟩ ⟨by omega, by omega⟩ (by decide) (pc' := 361) rfl (fun c358 => ?_) (fun c358 => by exfalso; omega)
              refine Y.aload_n cx wd (i := 1) rfl rfl dL_law_371 (pc' := 372) rfl ?_
              refine Y.callSW cx wd (rm := rm_L_restore) (As := [rf x]) (st := []) dL_law_372 ckS_restore rfl rfl ⟨Nat.le_of_ble_eq_true rfl, Nat.le_of_ble_eq_true rfl⟩ (show kj + 1 + 29 + 1 + 30 + 1 + 30 ≤ 600130 by omega) (show sj + 1 + 5699 + 6 + 5705 + 6 + 5705 ≤ 7301080 by omega) (Nat.le_of_ble_eq_true rfl) (pc' := 375) rfl (k_L_restore hEq25) (fun q26 hq26 eq26 => ?_)
              obtain ⟨r6, rfl, -, huq26⟩ := eq26
              obtain ⟨L6, hL6⟩ : ∃ L6, L6 = sA (sSave L5) (lK L5) := ⟨_, rfl⟩
              have hr6 : r6 = aB A1 ∧ EL hq26 x lo L6 := by
                rw [hL6, ← k5]
                rcases huq26 with ⟨-, u1, u2⟩ | ⟨z, -⟩
                · exact ⟨u1, u2⟩
                · exfalso
                  rcases z with z | z | z
                  · exact z.1 f5
                  · exact z.2.1 trivial
                  · exact z.2.2.1 trivial
              obtain ⟨hr6, hEq26⟩ := hr6
              have a6 : lA L6 = A1 := by rw [hL6]; exact k5
              have z6 : lZ L6 = psz (lZ L5) := by rw [hL6]; rfl
              have v6 : lSv L6 (lZ L6 - 1) = lA L5 := by rw [hL6]; exact psh_last
              have f6 : lKf L6 = 1 := by rw [hL6]; exact f5
              have k6 : lK L6 = A1 := by rw [hL6]; exact k5
              have t6 : L6.2.2.2 = L.2.2.2 := by rw [hL6]; exact t5
              have i6 : lI L6 := by rw [hL6]; exact lI_save i5 hz5 (i5.2.2 f5)
              have pz6 := psz_rng hz5
              have hz6 : 0 ≤ lZ L6 ∧ lZ L6 ≤ 6 := by omega
              have hB6 : 0 ≤ aB A1 ∧ aB A1 ≤ 400 := by
                have := hEq26.2.1.1.2.1.1
                rw [a6] at this
                exact this
              refine Y.if_lt cx wd (tgt := 382) dL_law_375 ⟨by omega, by omega⟩ (by decide) (pc' := 378) rfl (fun c375 => by exfalso; omega) (fun c375 => ?_)
              refine Y.iconst cx wd dL_law_378 (pc' := 379) rfl ?_
              refine Y.goto cx wd (tgt := 383) dL_law_379 (by decide) ?_
              refine Y.istore_n cx wd (i := 2) (ls' := [some (rf b), some (rf x), some (vi 1), some (vi i), some (vi y), some (vl (dig L)), none, some (vi st), some (vi se), some (vi vo), some (vi be), none, some (vl (dig L1)), none, some (vi lf)]) (hi := rfl) (hd := dL_law_383) (by decide) rfl rfl (pc' := 384) rfl ?_
              refine Y.mask (bs := [true, true, true, true, false, false, false, false, false, false, false, false, false, false, false]) (ls' := [some (rf b), some (rf x), some (vi 1), some (vi i), none, none, none, none, none, none, none, none, none, none, none]) rfl ?_
              refine J384 (kj + 1 + 29 + 1 + 30 + 1 + 30) (sj + 1 + 5699 + 6 + 5705 + 6 + 5705) hq26 L6 ?_
              exact ⟨by omega, by omega, hEq26, i6⟩
        have J184 : ∀ (kj : Nat) (sj : Nat) (hj : xM), (kj ≤ kc + 190 ∧ sj ≤ ks + 34400 ∧ EL hj x lo L1) → Y Ω room_1 Q p e s m0 args below meth c 15 kj sj 184 [some (rf b), some (rf x), some (vi 1), some (vi i), some (vi y), some (vl (dig L)), none, some (vi st), some (vi se), some (vi vo), some (vi be), none, none, none, none] [] hj := by
          intro kj sj hj hJ
          obtain ⟨hk1, hk2, hE5⟩ := hJ
          refine Y.iload_n cx wd (i := 2) rfl rfl dL_law_184 (pc' := 185) rfl ?_
          refine Y.if_eq cx wd (tgt := 224) dL_law_185 ⟨by omega, by omega⟩ (by decide) (pc' := 188) rfl (fun c185 => by exfalso; omega) (fun c185 => ?_)
          refine Y.iload cx wd (i := 4) rfl dL_law_188 (pc' := 190) rfl ?_
          refine Y.bipush cx wd (by decide +kernel) dL_law_190 (pc' := 192) rfl ?_
          refine Y.irem cx wd ⟨by omega, by omega⟩ (by omega) ⟨by omega, by omega⟩ (by omega) dL_law_192 (pc' := 193) rfl ?_
          refine Y.if_gt cx wd (tgt := 220) dL_law_193 ⟨by omega, by omega⟩ (by decide) (pc' := 196) rfl (fun c193 => ?_) (fun c193 => ?_)
          · refine Y.iconst cx wd dL_law_220 (pc' := 221) rfl ?_
            refine Y.goto cx wd (tgt := 225) dL_law_221 (by decide) ?_
            refine Y.istore_n cx wd (i := 2) (ls' := [some (rf b), some (rf x), some (vi 1), some (vi i), some (vi y), some (vl (dig L)), none, some (vi st), some (vi se), some (vi vo), some (vi be), none, none, none, none]) (hi := rfl) (hd := dL_law_225) (by decide) rfl rfl (pc' := 226) rfl ?_
            refine J226 kj sj hj ?_
            exact ⟨by omega, by omega, hE5⟩
          · refine Y.aload_n cx wd (i := 1) rfl rfl dL_law_196 (pc' := 197) rfl ?_
            refine Y.callS cx wd (rm := rm_L_hangs) (As := [rf x]) (st := []) dL_law_197 ck_L_121 rfl rfl ⟨Nat.le_of_ble_eq_true rfl, Nat.le_of_ble_eq_true rfl⟩ (show kj + 48 ≤ 600130 by omega) (show sj + 288 ≤ 7301080 by omega) (Nat.le_of_ble_eq_true rfl) (pc' := 200) rfl (k_L_hangs hE5 hI1.1) (fun q27 hq27 eq27 => ?_)
            obtain ⟨rfl, hEq27, -⟩ := eq27
            refine Y.if_eq cx wd (tgt := 224) dL_law_200 ⟨by omega, by omega⟩ (by decide) (pc' := 203) rfl (fun c200 => by exfalso; omega) (fun c200 => ?_)
            refine Y.aload_n cx wd (i := 1) rfl rfl dL_law_203 (pc' := 204) rfl ?_
            refine Y.iload cx wd (i := 8) rfl dL_law_204 (pc' := 206) rfl ?_
            refine Y.iload cx wd (i := 4) rfl dL_law_206 (pc' := 208) rfl ?_
            refine Y.bipush cx wd (by decide +kernel) dL_law_208 (pc' := 210) rfl ?_
            refine Y.idiv cx wd ⟨by omega, by omega⟩ (by omega) ⟨by omega, by omega⟩ (by omega) dL_law_210 (pc' := 211) rfl ?_
            refine Y.bipush cx wd (by decide +kernel) dL_law_211 (pc' := 213) rfl ?_
            refine Y.irem cx wd ⟨by omega, by omega⟩ (by omega) ⟨by omega, by omega⟩ (by omega) dL_law_213 (pc' := 214) rfl ?_
            refine Y.callS cx wd (rm := rm_L_tells) (As := [rf x, vi se, vi ((y / 11) % 10)]) (st := []) dL_law_214 ck_L_125 rfl rfl ⟨Nat.le_of_ble_eq_true rfl, Nat.le_of_ble_eq_true rfl⟩ (show kj + 48 + 12 ≤ 600130 by omega) (show sj + 288 + 72 ≤ 7301080 by omega) (Nat.le_of_ble_eq_true rfl) (pc' := 217) rfl (k_L_tells hEq27 (by omega) (by omega)) (fun q28 hq28 eq28 => ?_)
            obtain ⟨rfl, hEq28, -⟩ := eq28
            refine Y.if_eq cx wd (tgt := 224) dL_law_217 ⟨by omega, by omega⟩ (by decide) (pc' := 220) rfl (fun c217 => by exfalso; omega) (fun c217 => ?_)
            refine Y.iconst cx wd dL_law_220 (pc' := 221) rfl ?_
            refine Y.goto cx wd (tgt := 225) dL_law_221 (by decide) ?_
            refine Y.istore_n cx wd (i := 2) (ls' := [some (rf b), some (rf x), some (vi 1), some (vi i), some (vi y), some (vl (dig L)), none, some (vi st), some (vi se), some (vi vo), some (vi be), none, none, none, none]) (hi := rfl) (hd := dL_law_225) (by decide) rfl rfl (pc' := 226) rfl ?_
            refine J226 (kj + 48 + 12) (sj + 288 + 72) hq28 ?_
            exact ⟨by omega, by omega, hEq28⟩
        refine Y.aload_n cx wd (i := 1) rfl rfl dL_law_130 (pc' := 131) rfl ?_
        refine Y.bipush cx wd (by decide +kernel) dL_law_131 (pc' := 133) rfl ?_
        refine Y.callSW cx wd (rm := rm_L_count0) (As := [rf x, vi 9]) (st := []) dL_law_133 ckS_count rfl rfl ⟨Nat.le_of_ble_eq_true rfl, Nat.le_of_ble_eq_true rfl⟩ (show kc + 1 + 186 + 0 ≤ 600130 by omega) (show ks + 1 + 34266 + 0 ≤ 7301080 by omega) (Nat.le_of_ble_eq_true rfl) (pc' := 136) rfl (k_L_count0 hE2 ⟨by omega, by omega⟩ (by omega)) (fun q29 hq29 eq29 => ?_)
        obtain ⟨rfl, wq29⟩ := eq29
        obtain rfl : q29 = some (vi (psz (lZ L))) := wq29.trans (by rw [← z1]; rfl)
        refine Y.iload cx wd (i := 7) rfl dL_law_136 (pc' := 138) rfl ?_
        refine Y.bipush cx wd (by decide +kernel) dL_law_138 (pc' := 140) rfl ?_
        refine Y.icmp_ne cx wd (tgt := 148) dL_law_140 ⟨by omega, by omega⟩ ⟨by omega, by omega⟩ (by decide) (pc' := 143) rfl (fun c140 => ?_) (fun c140 => ?_)
        · refine Y.iload cx wd (i := 7) rfl dL_law_148 (pc' := 150) rfl ?_
          refine Y.iconst cx wd dL_law_150 (pc' := 151) rfl ?_
          refine Y.iadd cx wd dL_law_151 (pc' := 152) rfl ?_
          refine Y.icmp_ne cx wd (tgt := 182) dL_law_152 ⟨by omega, by omega⟩ ⟨by omega, by omega⟩ (by decide) (pc' := 155) rfl (fun c152 => by exfalso; omega) (fun c152 => ?_)
          refine Y.iload cx wd (i := 4) rfl dL_law_155 (pc' := 157) rfl ?_
          refine Y.bipush cx wd (by decide +kernel) dL_law_157 (pc' := 159) rfl ?_
          refine Y.irem cx wd ⟨by omega, by omega⟩ (by omega) ⟨by omega, by omega⟩ (by omega) dL_law_159 (pc' := 160) rfl ?_
          refine Y.iconst cx wd dL_law_160 (pc' := 161) rfl ?_
          refine Y.icmp_ne cx wd (tgt := 178) dL_law_161 ⟨by omega, by omega⟩ ⟨by omega, by omega⟩ (by decide) (pc' := 164) rfl (fun c161 => ?_) (fun c161 => ?_)
          · refine Y.iconst cx wd dL_law_178 (pc' := 179) rfl ?_
            refine Y.goto cx wd (tgt := 183) dL_law_179 (by decide) ?_
            refine Y.istore_n cx wd (i := 2) (ls' := [some (rf b), some (rf x), some (vi 1), some (vi i), some (vi y), some (vl (dig L)), none, some (vi st), some (vi se), some (vi vo), some (vi be), some (vi r), none, none, none]) (hi := rfl) (hd := dL_law_183) (by decide) rfl rfl (pc' := 184) rfl ?_
            refine Y.mask (bs := [true, true, true, true, true, true, false, true, true, true, true, false, false, false, false]) (ls' := [some (rf b), some (rf x), some (vi 1), some (vi i), some (vi y), some (vl (dig L)), none, some (vi st), some (vi se), some (vi vo), some (vi be), none, none, none, none]) rfl ?_
            refine J184 (kc + 1 + 186) (ks + 1 + 34266) hq7 ?_
            exact ⟨by omega, by omega, hE2⟩
          · refine Y.aload_n cx wd (i := 1) rfl rfl dL_law_164 (pc' := 165) rfl ?_
            refine Y.iload cx wd (i := 8) rfl dL_law_165 (pc' := 167) rfl ?_
            refine Y.iload cx wd (i := 10) rfl dL_law_167 (pc' := 169) rfl ?_
            refine Y.iconst cx wd dL_law_169 (pc' := 170) rfl ?_
            refine Y.callSW cx wd (rm := rm_L_heard0) (As := [rf x, vi se, vi be, vi 0]) (st := []) dL_law_170 ckS_heard rfl rfl ⟨Nat.le_of_ble_eq_true rfl, Nat.le_of_ble_eq_true rfl⟩ (show kc + 1 + 186 + 0 ≤ 600130 by omega) (show ks + 1 + 34266 + 0 ≤ 7301080 by omega) (Nat.le_of_ble_eq_true rfl) (pc' := 173) rfl (k_L_heard0 hE2 ⟨by omega, by omega⟩ ⟨by omega, by omega⟩ ⟨by omega, by omega⟩ (by omega)) (fun q30 hq30 eq30 => ?_)
            obtain ⟨rfl, wq30⟩ := eq30
            obtain rfl : q30 = some (vi vo) := wq30.trans (by rw [hbe, hvo]; rw [if_pos (show aB (lA L) < aB (lA L1) by rw [a1]; exact (hp (by omega)).1), oBt_0, a1]; exact congrArg (fun z => some (vi z)) ((hp (by omega)).2 se (by omega) (by omega)))
            refine Y.iload cx wd (i := 9) rfl dL_law_173 (pc' := 175) rfl ?_
            refine Y.icmp_ne cx wd (tgt := 182) dL_law_175 ⟨by omega, by omega⟩ ⟨by omega, by omega⟩ (by decide) (pc' := 178) rfl (fun c175 => by exfalso; omega) (fun c175 => ?_)
            refine Y.iconst cx wd dL_law_178 (pc' := 179) rfl ?_
            refine Y.goto cx wd (tgt := 183) dL_law_179 (by decide) ?_
            refine Y.istore_n cx wd (i := 2) (ls' := [some (rf b), some (rf x), some (vi 1), some (vi i), some (vi y), some (vl (dig L)), none, some (vi st), some (vi se), some (vi vo), some (vi be), some (vi r), none, none, none]) (hi := rfl) (hd := dL_law_183) (by decide) rfl rfl (pc' := 184) rfl ?_
            refine Y.mask (bs := [true, true, true, true, true, true, false, true, true, true, true, false, false, false, false]) (ls' := [some (rf b), some (rf x), some (vi 1), some (vi i), some (vi y), some (vl (dig L)), none, some (vi st), some (vi se), some (vi vo), some (vi be), none, none, none, none]) rfl ?_
            refine J184 (kc + 1 + 186) (ks + 1 + 34266) hq7 ?_
            exact ⟨by omega, by omega, hE2⟩
        · refine Y.bipush cx wd (by decide +kernel) dL_law_143 (pc' := 145) rfl ?_
          refine Y.goto cx wd (tgt := 152) dL_law_145 (by decide) ?_
          refine Y.icmp_ne cx wd (tgt := 182) dL_law_152 ⟨by omega, by omega⟩ ⟨by omega, by omega⟩ (by decide) (pc' := 155) rfl (fun c152 => by exfalso; omega) (fun c152 => ?_)
          refine Y.iload cx wd (i := 4) rfl dL_law_155 (pc' := 157) rfl ?_
          refine Y.bipush cx wd (by decide +kernel) dL_law_157 (pc' := 159) rfl ?_
          refine Y.irem cx wd ⟨by omega, by omega⟩ (by omega) ⟨by omega, by omega⟩ (by omega) dL_law_159 (pc' := 160) rfl ?_
          refine Y.iconst cx wd dL_law_160 (pc' := 161) rfl ?_
          refine Y.icmp_ne cx wd (tgt := 178) dL_law_161 ⟨by omega, by omega⟩ ⟨by omega, by omega⟩ (by decide) (pc' := 164) rfl (fun c161 => ?_) (fun c161 => ?_)
          · refine Y.iconst cx wd dL_law_178 (pc' := 179) rfl ?_
            refine Y.goto cx wd (tgt := 183) dL_law_179 (by decide) ?_
            refine Y.istore_n cx wd (i := 2) (ls' := [some (rf b), some (rf x), some (vi 1), some (vi i), some (vi y), some (vl (dig L)), none, some (vi st), some (vi se), some (vi vo), some (vi be), some (vi r), none, none, none]) (hi := rfl) (hd := dL_law_183) (by decide) rfl rfl (pc' := 184) rfl ?_
            refine Y.mask (bs := [true, true, true, true, true, true, false, true, true, true, true, false, false, false, false]) (ls' := [some (rf b), some (rf x), some (vi 1), some (vi i), some (vi y), some (vl (dig L)), none, some (vi st), some (vi se), some (vi vo), some (vi be), none, none, none, none]) rfl ?_
            refine J184 (kc + 1 + 186) (ks + 1 + 34266) hq7 ?_
            exact ⟨by omega, by omega, hE2⟩
          · refine Y.aload_n cx wd (i := 1) rfl rfl dL_law_164 (pc' := 165) rfl ?_
            refine Y.iload cx wd (i := 8) rfl dL_law_165 (pc' := 167) rfl ?_
            refine Y.iload cx wd (i := 10) rfl dL_law_167 (pc' := 169) rfl ?_
            refine Y.iconst cx wd dL_law_169 (pc' := 170) rfl ?_
            refine Y.callSW cx wd (rm := rm_L_heard0) (As := [rf x, vi se, vi be, vi 0]) (st := []) dL_law_170 ckS_heard rfl rfl ⟨Nat.le_of_ble_eq_true rfl, Nat.le_of_ble_eq_true rfl⟩ (show kc + 1 + 186 + 0 ≤ 600130 by omega) (show ks + 1 + 34266 + 0 ≤ 7301080 by omega) (Nat.le_of_ble_eq_true rfl) (pc' := 173) rfl (k_L_heard0 hE2 ⟨by omega, by omega⟩ ⟨by omega, by omega⟩ ⟨by omega, by omega⟩ (by omega)) (fun q31 hq31 eq31 => ?_)
            obtain ⟨rfl, wq31⟩ := eq31
            obtain rfl : q31 = some (vi vo) := wq31.trans (by rw [hbe, hvo]; rw [if_pos (show aB (lA L) < aB (lA L1) by rw [a1]; exact (hp (by omega)).1), oBt_0, a1]; exact congrArg (fun z => some (vi z)) ((hp (by omega)).2 se (by omega) (by omega)))
            refine Y.iload cx wd (i := 9) rfl dL_law_173 (pc' := 175) rfl ?_
            refine Y.icmp_ne cx wd (tgt := 182) dL_law_175 ⟨by omega, by omega⟩ ⟨by omega, by omega⟩ (by decide) (pc' := 178) rfl (fun c175 => by exfalso; omega) (fun c175 => ?_)
            refine Y.iconst cx wd dL_law_178 (pc' := 179) rfl ?_
            refine Y.goto cx wd (tgt := 183) dL_law_179 (by decide) ?_
            refine Y.istore_n cx wd (i := 2) (ls' := [some (rf b), some (rf x), some (vi 1), some (vi i), some (vi y), some (vl (dig L)), none, some (vi st), some (vi se), some (vi vo), some (vi be), some (vi r), none, none, none]) (hi := rfl) (hd := dL_law_183) (by decide) rfl rfl (pc' := 184) rfl ?_
            refine Y.mask (bs := [true, true, true, true, true, true, false, true, true, true, true, false, false, false, false]) (ls' := [some (rf b), some (rf x), some (vi 1), some (vi i), some (vi y), some (vl (dig L)), none, some (vi st), some (vi se), some (vi vo), some (vi be), none, none, none, none]) rfl ?_
            refine J184 (kc + 1 + 186) (ks + 1 + 34266) hq7 ?_
            exact ⟨by omega, by omega, hE2⟩
      · have hE2 := (hc.resolve_right (fun z => by have := z.1; omega)).2
        refine Y.aload_n cx wd (i := 1) rfl rfl dL_law_111 (pc' := 112) rfl ?_
        refine Y.callV cx wd (ci := 5) (a := x) (rm := rm_X5_digest) (As := []) (st := []) dL_law_112 ck_L_111 rfl (by decide) hE2.1.1 rfl rfl ⟨Nat.le_of_ble_eq_true rfl, Nat.le_of_ble_eq_true rfl⟩ (show kc + 1 + 186 + 1 ≤ 600130 by omega) (show ks + 1 + 34266 + 1 ≤ 7301080 by omega) (Nat.le_of_ble_eq_true rfl) (pc' := 115) rfl (k_X5_digest hE2) (fun q32 hq32 eq32 => ?_)
        obtain ⟨rfl, hEq32, -⟩ := eq32
        refine Y.lload cx wd (i := 5) rfl dL_law_115 (pc' := 117) rfl ?_
        refine Y.lcmp cx wd dL_law_117 (pc' := 118) rfl (fun _ => ?_) (fun ne => absurd (rfl) ne)
        refine Y.if_ne cx wd (tgt := 125) dL_law_118 ⟨by omega, by omega⟩ (by decide) (pc' := 121) rfl (fun c118 => by exfalso; omega) (fun c118 => ?_)
        refine Y.iconst cx wd dL_law_121 (pc' := 122) rfl ?_
        refine Y.goto cx wd (tgt := 126) dL_law_122 (by decide) ?_
        refine Y.istore_n cx wd (i := 2) (ls' := [some (rf b), some (rf x), some (vi 1), some (vi i), some (vi y), some (vl (dig L)), none, some (vi st), some (vi se), some (vi vo), some (vi be), some (vi r), none, none, none]) (hi := rfl) (hd := dL_law_126) (by decide) rfl rfl (pc' := 127) rfl ?_
        refine Y.goto cx wd (tgt := 384) dL_law_127 (by decide) ?_
        refine Y.mask (bs := [true, true, true, true, false, false, false, false, false, false, false, false, false, false, false]) (ls' := [some (rf b), some (rf x), some (vi 1), some (vi i), none, none, none, none, none, none, none, none, none, none, none]) rfl ?_
        refine J384 (kc + 1 + 186 + 1) (ks + 1 + 34266 + 1) hq32 L ?_
        exact ⟨by omega, by omega, hEq32, hI⟩
theorem lI_new : lI lNew := ⟨aInv_new, fun i h0 h1 => absurd h1 (by show ¬ i < 0; omega), fun h => absurd h (by decide)⟩
set_option maxHeartbeats 4000000 in
set_option maxRecDepth 100000 in
theorem y_start {Ω : xO} {Q : State → Prop} {p : Program} {e : Env} {s : State} {m0 : MethodId} {args : Array Value} {below : List Frame} {meth : Method} {c : Code} {b Ls : Nat} {xs : Nat → Int32} (cx : yCx RL cL_law 15 (some .boolean) p s m0 args meth c) (wd : xWd Ω s) (sc : yScr Ω s b Ls xs) (hLs : Ls ≤ 260) (fin : ∀ (kc ks : Nat) (ls : List (Option xV)) (h : xM), kc ≤ 600130 → ks ≤ 7301080 → Y Ω room_1 Q p e s m0 args below meth c 15 kc ks 450 ls [vi 1] h) {h0 : xM} : Y Ω room_1 Q p e s m0 args below meth c 15 0 0 0 [some (rf b), none, none, none, none, none, none, none, none, none, none, none, none, none, none] [] h0 := by
  refine Y.new cx wd (ci := 5) dL_law_0 xcl_5 (by decide) rfl wd_35 wd_36 wd_21 (show 0 + 1 ≤ 600130 by omega) (show 0 + 5 ≤ 7301080 by omega) (pc' := 3) rfl ?_
  refine Y.genH (fun h1 hh1 => ?_)
  obtain ⟨x, hx⟩ : ∃ x, x = mN h0 := ⟨_, rfl⟩
  rw [← hx]
  have hT1 : mT h1 x = some (5, 5) := by rw [hh1, mT_aL, hx, if_pos rfl]
  have hN1 : mN h1 = x + 1 := by rw [hh1, mN_aL, hx]
  have hz4 : mR h1 x 4 = none := by rw [hh1, mR_aL, hx, if_pos rfl]
  refine Y.dup cx wd rfl dL_law_3 (pc' := 4) rfl ?_
  refine Y.callI cx wd (a := x) (rm := rm_X5_init) (As := []) (st := [rf x]) dL_law_4 ck_L_101 rfl rfl ⟨Nat.le_of_ble_eq_true rfl, Nat.le_of_ble_eq_true rfl⟩ (show 0 + 1 + 34 ≤ 600130 by omega) (show 0 + 5 + 5770 ≤ 7301080 by omega) (Nat.le_of_ble_eq_true rfl) (pc' := 7) rfl (k_X5_init hT1 hN1 hz4) (fun q2 h2 e2 => ?_)
  obtain ⟨rfl, hE2, hN2, hs2⟩ := e2
  generalize hlo : x + 35 = lo at hE2
  refine Y.astore_n cx wd (i := 1) (ls' := [some (rf b), some (rf x), none, none, none, none, none, none, none, none, none, none, none, none, none]) (hi := rfl) (hd := dL_law_7) (by decide) rfl rfl (pc' := 8) rfl ?_
  refine Y.aload_n cx wd (i := 1) rfl rfl dL_law_8 (pc' := 9) rfl ?_
  refine Y.callSW cx wd (rm := rm_L_undo) (As := [rf x]) (st := []) dL_law_9 ckS_undo rfl rfl ⟨Nat.le_of_ble_eq_true rfl, Nat.le_of_ble_eq_true rfl⟩ (show 0 + 1 + 34 + 1 ≤ 600130 by omega) (show 0 + 5 + 5770 + 6 ≤ 7301080 by omega) (Nat.le_of_ble_eq_true rfl) (pc' := 12) rfl (k_L_undo hE2) (fun q11 hq11 eq11 => ?_)
  obtain ⟨r6, rfl, -, huq11⟩ := eq11
  have hr6 : r6 = -2000001 ∧ EL hq11 x lo lNew := by
    rcases huq11 with ⟨hcd, -, -⟩ | ⟨z, hE9⟩
    · exact absurd hcd.1 (by decide)
    · refine ⟨?_, hE9⟩
      rcases z with z | z | z
      · have := z.2; omega
      · exact absurd trivial z.2.1
      · exact absurd trivial z.2.2.1
  obtain ⟨rfl, hEq11⟩ := hr6
  refine Y.ldcI cx wd (v := (-2000001)) dL_law_12 kL_17 (pc' := 14) rfl ?_
  refine Y.icmp_ne cx wd (tgt := 37) dL_law_14 ⟨by omega, by omega⟩ ⟨by omega, by omega⟩ (by decide) (pc' := 17) rfl (fun c14 => by exfalso; omega) (fun c14 => ?_)
  refine Y.aload_n cx wd (i := 1) rfl rfl dL_law_17 (pc' := 18) rfl ?_
  refine Y.callSW cx wd (rm := rm_L_restore) (As := [rf x]) (st := []) dL_law_18 ckS_restore rfl rfl ⟨Nat.le_of_ble_eq_true rfl, Nat.le_of_ble_eq_true rfl⟩ (show 0 + 1 + 34 + 1 + 30 ≤ 600130 by omega) (show 0 + 5 + 5770 + 6 + 5705 ≤ 7301080 by omega) (Nat.le_of_ble_eq_true rfl) (pc' := 21) rfl (k_L_restore hEq11) (fun q12 hq12 eq12 => ?_)
  obtain ⟨r7, rfl, -, huq12⟩ := eq12
  have hr7 : r7 = -2000001 ∧ EL hq12 x lo lNew := by
    rcases huq12 with ⟨hcd, -, -⟩ | ⟨z, hE9⟩
    · exact absurd hcd.1 (by decide)
    · refine ⟨?_, hE9⟩
      rcases z with z | z | z
      · have := z.2; omega
      · exact absurd trivial z.2.1
      · exact absurd trivial z.2.2.1
  obtain ⟨rfl, hEq12⟩ := hr7
  refine Y.ldcI cx wd (v := (-2000001)) dL_law_21 kL_17 (pc' := 23) rfl ?_
  refine Y.icmp_ne cx wd (tgt := 37) dL_law_23 ⟨by omega, by omega⟩ ⟨by omega, by omega⟩ (by decide) (pc' := 26) rfl (fun c23 => by exfalso; omega) (fun c23 => ?_)
  refine Y.aload_n cx wd (i := 1) rfl rfl dL_law_26 (pc' := 27) rfl ?_
  refine Y.callV cx wd (ci := 5) (a := x) (rm := rm_X5_bestSeat) (As := []) (st := []) dL_law_27 ck_L_104 rfl (by decide) hEq12.1.1 rfl rfl ⟨Nat.le_of_ble_eq_true rfl, Nat.le_of_ble_eq_true rfl⟩ (show 0 + 1 + 34 + 1 + 30 + 0 ≤ 600130 by omega) (show 0 + 5 + 5770 + 6 + 5705 + 0 ≤ 7301080 by omega) (Nat.le_of_ble_eq_true rfl) (pc' := 30) rfl (k_X5_bestSeat hEq12) (fun q13 hq13 eq13 => ?_)
  obtain ⟨rfl, rfl⟩ := eq13
  have hb0 : bst (lA lNew) = 0 := bst_new
  refine Y.if_ne cx wd (tgt := 37) dL_law_30 ⟨by omega, by omega⟩ (by decide) (pc' := 33) rfl (fun c30 => by exfalso; omega) (fun c30 => ?_)
  refine Y.iconst cx wd dL_law_33 (pc' := 34) rfl ?_
  refine Y.goto cx wd (tgt := 38) dL_law_34 (by decide) ?_
  refine Y.istore_n cx wd (i := 2) (ls' := [some (rf b), some (rf x), some (vi 1), none, none, none, none, none, none, none, none, none, none, none, none]) (hi := rfl) (hd := dL_law_38) (by decide) rfl rfl (pc' := 39) rfl ?_
  refine Y.iconst cx wd dL_law_39 (pc' := 40) rfl ?_
  refine Y.istore_n cx wd (i := 3) (ls' := [some (rf b), some (rf x), some (vi 1), some (vi 0), none, none, none, none, none, none, none, none, none, none, none]) (hi := rfl) (hd := dL_law_40) (by decide) rfl rfl (pc' := 41) rfl ?_
  exact y_loop cx wd sc hLs fin _ 0 _ _ hq12 lNew (Nat.lt_succ_self _) (by decide) (by decide) (show ((0 + 1 + 34 + 1 + 30 : Nat) : Int) ≤ 1000 + 480 * 0 by omega) (show ((0 + 5 + 5770 + 6 + 5705 : Nat) : Int) ≤ 40000 + 65000 * 0 by omega) hEq12 lI_new
