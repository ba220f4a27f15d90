set_option maxHeartbeats 4000000 in
set_option maxRecDepth 100000 in
theorem y_loop {Ω : xO} {Q : State → Prop} {p : Program} {e : Env} {s : State} {m0 : MethodId} {args : Array Value} {below : List Frame} {meth : Method} {c : Code} {b Ls x m o lo : Nat} {xs : Nat → Int32} (cx : yCx RL cL_law 9 (some .boolean) p s m0 args meth c) (wd : xWd Ω s) (sc : yScr Ω s b Ls xs) (hLs : Ls ≤ 2048) (fin : ∀ (kc ks : Nat) (ls : List (Option xV)) (h : xM), kc ≤ 601024 → ks ≤ 7293034 → Y Ω room_1 Q p e s m0 args below meth c 9 kc ks 1330 ls [vi 1] h) :
    ∀ (n : Nat) (i : Int) (kc ks : Nat) (h : xM) (L : lS), (Ls + 4 - i).toNat < n → 0 ≤ i → i ≤ 2052 → (kc : Int) ≤ 1000 + 10 * i → (ks : Int) ≤ 60000 + 1500 * i → LI h x m o lo L → Y Ω room_1 Q p e s m0 args below meth c 9 kc ks 23 [some (rf b), some (rf x), some (rf m), some (rf o), some (vi i), none, none, none, none] [] h := by
  intro n
  induction n with
  | zero => intro i kc ks h L hm; omega
  | succ n ih =>
    intro i kc ks h L hm h0 hi hkc hks hL
    refine Y.iload cx wd (i := 4) rfl dL_law_23 (pc' := 25) rfl ?_
    refine Y.aload_n cx wd (i := 0) rfl rfl dL_law_25 (pc' := 26) rfl ?_
    refine Y.slen cx sc dL_law_26 (pc' := 27) rfl ?_
    refine Y.iconst cx wd dL_law_27 (pc' := 28) rfl ?_
    refine Y.isub cx wd dL_law_28 (pc' := 29) rfl ?_
    refine Y.icmp_gt cx wd (tgt := 1329) dL_law_29 ⟨by omega, by omega⟩ ⟨by omega, by omega⟩ (by decide) (pc' := 32) rfl (fun c1 => ?_) (fun c1 => ?_)
    · refine Y.iconst cx wd dL_law_1329 (pc' := 1330) rfl ?_
      exact fin _ _ _ _ (by omega) (by omega)
    · refine Y.aload_n cx wd (i := 0) rfl rfl dL_law_32 (pc' := 33) rfl ?_
      refine Y.iload cx wd (i := 4) rfl dL_law_33 (pc' := 35) rfl ?_
      refine Y.sald cx sc dL_law_35 (by omega) (by omega) ⟨by omega, by omega⟩ (pc' := 36) rfl (fun z ez irz => ?_)
      refine Y.bipush cx wd (by decide +kernel) dL_law_36 (pc' := 38) rfl ?_
      obtain ⟨w, hw, hw0, hw31⟩ := y_and (xs i.toNat)
      refine Y.iand cx wd (z := w) (by rw [ez, Int32.ofInt_toInt]; exact hw) dL_law_38 (pc' := 39) rfl ?_
      have back : ∀ (kc' ks' : Nat) (h' : xM) (L' : lS), kc' ≤ kc + 40 → ks' ≤ ks + 6000 → LI h' x m o lo L' → Y Ω room_1 Q p e s m0 args below meth c 9 kc' ks' 1323 [some (rf b), some (rf x), some (rf m), some (rf o), some (vi i), none, none, none, none] [] h' := by
        intro kc' ks' h' L' b1 b2 hL'
        refine Y.iinc cx wd (i := 4) (ls' := [some (rf b), some (rf x), some (rf m), some (rf o), some (vi (i + 4)), none, none, none, none]) dL_law_1323 rfl (by decide) rfl rfl (pc' := 1326) rfl ?_
        refine Y.goto cx wd (tgt := 23) dL_law_1326 (by decide) ?_
        exact ih (i + 4) kc' ks' h' L' (by omega) (by omega) (by omega) (by omega) (by omega) hL'
      have hiL : 0 ≤ i ∧ i + 4 ≤ Ls ∧ Ls ≤ 2048 := ⟨by omega, by omega, hLs⟩
      rcases (show w = 0 ∨ w = 1 ∨ w = 2 ∨ w = 3 ∨ w = 4 ∨ w = 5 ∨ w = 6 ∨ w = 7 ∨ w = 8 ∨ w = 9 ∨ w = 10 ∨ w = 11 ∨ w = 12 ∨ w = 13 ∨ w = 14 ∨ w = 15 ∨ w = 16 ∨ w = 17 ∨ w = 18 ∨ w = 19 ∨ w = 20 ∨ w = 21 ∨ w = 22 ∨ (w < 0 ∨ 22 < w) by omega) with sw | sw | sw | sw | sw | sw | sw | sw | sw | sw | sw | sw | sw | sw | sw | sw | sw | sw | sw | sw | sw | sw | sw | sw
      · refine Y.tableIn cx wd (tgt := 144) (off := 105) dL_law_39 ⟨by omega, by omega⟩ (by omega) (by omega) (by rw [sw]; rfl) (by decide) ?_
        exact y_say cx wd sc hiL hL (by omega) (by omega) back
      · refine Y.tableIn cx wd (tgt := 224) (off := 185) dL_law_39 ⟨by omega, by omega⟩ (by omega) (by omega) (by rw [sw]; rfl) (by decide) ?_
        exact y_pass cx wd sc hiL hL (by omega) (by omega) back
      · refine Y.tableIn cx wd (tgt := 280) (off := 241) dL_law_39 ⟨by omega, by omega⟩ (by omega) (by omega) (by rw [sw]; rfl) (by decide) ?_
        exact y_wall cx wd sc hiL hL (by omega) (by omega) back
      · refine Y.tableIn cx wd (tgt := 348) (off := 309) dL_law_39 ⟨by omega, by omega⟩ (by omega) (by omega) (by rw [sw]; rfl) (by decide) ?_
        exact y_set cx wd sc hiL hL (by omega) (by omega) back
      · refine Y.tableIn cx wd (tgt := 416) (off := 377) dL_law_39 ⟨by omega, by omega⟩ (by omega) (by omega) (by rw [sw]; rfl) (by decide) ?_
        exact y_append cx wd sc hiL hL (by omega) (by omega) back
      · refine Y.tableIn cx wd (tgt := 472) (off := 433) dL_law_39 ⟨by omega, by omega⟩ (by omega) (by omega) (by rw [sw]; rfl) (by decide) ?_
        exact y_clearBuffer cx wd sc hiL hL (by omega) (by omega) back
      · refine Y.tableIn cx wd (tgt := 485) (off := 446) dL_law_39 ⟨by omega, by omega⟩ (by omega) (by omega) (by rw [sw]; rfl) (by decide) ?_
        exact y_firstError cx wd sc hiL hL (by omega) (by omega) back
      · refine Y.tableIn cx wd (tgt := 498) (off := 459) dL_law_39 ⟨by omega, by omega⟩ (by omega) (by omega) (by rw [sw]; rfl) (by decide) ?_
        exact y_talk cx wd sc hiL hL (by omega) (by omega) back
      · refine Y.tableIn cx wd (tgt := 542) (off := 503) dL_law_39 ⟨by omega, by omega⟩ (by omega) (by omega) (by rw [sw]; rfl) (by decide) ?_
        exact y_undo cx wd sc hiL hL (by omega) (by omega) back
      · refine Y.tableIn cx wd (tgt := 586) (off := 547) dL_law_39 ⟨by omega, by omega⟩ (by omega) (by omega) (by rw [sw]; rfl) (by decide) ?_
        exact y_keep cx wd sc hiL hL (by omega) (by omega) back
      · refine Y.tableIn cx wd (tgt := 599) (off := 560) dL_law_39 ⟨by omega, by omega⟩ (by omega) (by omega) (by rw [sw]; rfl) (by decide) ?_
        exact y_restore cx wd sc hiL hL (by omega) (by omega) back
      · refine Y.tableIn cx wd (tgt := 643) (off := 604) dL_law_39 ⟨by omega, by omega⟩ (by omega) (by omega) (by rw [sw]; rfl) (by decide) ?_
        exact y_said cx wd sc hiL hL (by omega) (by omega) back
      · refine Y.tableIn cx wd (tgt := 711) (off := 672) dL_law_39 ⟨by omega, by omega⟩ (by omega) (by omega) (by rw [sw]; rfl) (by decide) ?_
        exact y_comes cx wd sc hiL hL (by omega) (by omega) back
      · refine Y.tableIn cx wd (tgt := 779) (off := 740) dL_law_39 ⟨by omega, by omega⟩ (by omega) (by omega) (by rw [sw]; rfl) (by decide) ?_
        exact y_heard cx wd sc hiL hL (by omega) (by omega) back
      · refine Y.tableIn cx wd (tgt := 859) (off := 820) dL_law_39 ⟨by omega, by omega⟩ (by omega) (by omega) (by rw [sw]; rfl) (by decide) ?_
        exact y_speaker cx wd sc hiL hL (by omega) (by omega) back
      · refine Y.tableIn cx wd (tgt := 927) (off := 888) dL_law_39 ⟨by omega, by omega⟩ (by omega) (by omega) (by rw [sw]; rfl) (by decide) ?_
        exact y_message cx wd sc hiL hL (by omega) (by omega) back
      · refine Y.tableIn cx wd (tgt := 1007) (off := 968) dL_law_39 ⟨by omega, by omega⟩ (by omega) (by omega) (by rw [sw]; rfl) (by decide) ?_
        exact y_count cx wd sc hiL hL (by omega) (by omega) back
      · refine Y.tableIn cx wd (tgt := 1063) (off := 1024) dL_law_39 ⟨by omega, by omega⟩ (by omega) (by omega) (by rw [sw]; rfl) (by decide) ?_
        exact y_whyNot cx wd sc hiL hL (by omega) (by omega) back
      · refine Y.tableIn cx wd (tgt := 1131) (off := 1092) dL_law_39 ⟨by omega, by omega⟩ (by omega) (by omega) (by rw [sw]; rfl) (by decide) ?_
        exact y_ifSilent cx wd sc hiL hL (by omega) (by omega) back
      · refine Y.tableIn cx wd (tgt := 1187) (off := 1148) dL_law_39 ⟨by omega, by omega⟩ (by omega) (by omega) (by rw [sw]; rfl) (by decide) ?_
        exact y_heardIn cx wd sc hiL hL (by omega) (by omega) back
      · refine Y.tableIn cx wd (tgt := 1255) (off := 1216) dL_law_39 ⟨by omega, by omega⟩ (by omega) (by omega) (by rw [sw]; rfl) (by decide) ?_
        exact y_bestSeat cx wd sc hiL hL (by omega) (by omega) back
      · refine Y.tableIn cx wd (tgt := 1268) (off := 1229) dL_law_39 ⟨by omega, by omega⟩ (by omega) (by omega) (by rw [sw]; rfl) (by decide) ?_
        exact y_heardShare cx wd sc hiL hL (by omega) (by omega) back
      · refine Y.tableIn cx wd (tgt := 1309) (off := 1270) dL_law_39 ⟨by omega, by omega⟩ (by omega) (by omega) (by rw [sw]; rfl) (by decide) ?_
        exact y_digest cx wd sc hiL hL (by omega) (by omega) back
      · refine Y.tableOut cx wd (tgt := 1323) dL_law_39 ⟨by omega, by omega⟩ sw (by decide) ?_
        exact back kc ks h L (by omega) (by omega) hL
set_option maxHeartbeats 4000000 in
set_option maxRecDepth 100000 in
theorem y_start {Ω : xO} {Q : State → Prop} {p : Program} {e : Env} {s : State} {m0 : MethodId} {args : Array Value} {below : List Frame} {meth : Method} {c : Code} {b Ls : Nat} {xs : Nat → Int32} (cx : yCx RL cL_law 9 (some .boolean) p s m0 args meth c) (wd : xWd Ω s) (sc : yScr Ω s b Ls xs) (hLs : Ls ≤ 2048) (fin : ∀ (kc ks : Nat) (ls : List (Option xV)) (h : xM), kc ≤ 601024 → ks ≤ 7293034 → Y Ω room_1 Q p e s m0 args below meth c 9 kc ks 1330 ls [vi 1] h) {h0 : xM} : Y Ω room_1 Q p e s m0 args below meth c 9 0 0 0 [some (rf b), none, none, none, none, none, none, none, none] [] h0 := by
  refine Y.new cx wd (ci := 5) dL_law_0 xcl_5 (by decide) rfl wd_76 wd_77 wd_60 (show 0 + 1 ≤ 601024 by omega) (show 0 + 5 ≤ 7293034 by omega) (pc' := 3) rfl ?_
  refine Y.genH (fun h1 hh1 => ?_)
  obtain ⟨x, hx⟩ : ∃ x, x = mN h0 := ⟨_, rfl⟩
  rw [← hx]
  have hT1 : mT h1 x = some (5, 5) := by rw [hh1, mT_aL, hx, if_pos rfl]
  have hN1 : mN h1 = x + 1 := by rw [hh1, mN_aL, hx]
  have hz4 : mR h1 x 4 = none := by rw [hh1, mR_aL, hx, if_pos rfl]
  refine Y.dup cx wd rfl dL_law_3 (pc' := 4) rfl ?_
  refine Y.callI cx wd (a := x) (rm := rm_X5_init) (As := []) (st := [rf x]) dL_law_4 ck_L_70 rfl rfl ⟨Nat.le_of_ble_eq_true rfl, Nat.le_of_ble_eq_true rfl⟩ (show 0 + 1 + 34 ≤ 601024 by omega) (show 0 + 5 + 5770 ≤ 7293034 by omega) (Nat.le_of_ble_eq_true rfl) (pc' := 7) rfl (k_X5_init hT1 hN1 hz4) (fun q2 h2 e2 => ?_)
  obtain ⟨rfl, hE2, hN2, hs2⟩ := e2
  refine Y.astore_n cx wd (i := 1) (ls' := [some (rf b), some (rf x), none, none, none, none, none, none, none]) (hi := rfl) (hd := dL_law_7) (by decide) rfl rfl (pc' := 8) rfl ?_
  refine Y.new cx wd (ci := 6) dL_law_8 xcl_6 (by decide) rfl wd_715 wd_716 wd_65 (show 0 + 1 + 34 + 1 ≤ 601024 by omega) (show 0 + 5 + 5770 + 13 ≤ 7293034 by omega) (pc' := 11) rfl ?_
  refine Y.genH (fun h3 hh3 => ?_)
  rw [hN2]
  have hT3 : mT h3 (x + 35) = some (6, 13) := by rw [hh3, mT_aL, hN2, if_pos rfl]
  have hN3 : mN h3 = x + 35 + 1 := by rw [hh3, mN_aL, hN2]
  have hI3 : ∀ j, mI h3 (x + 35) j = 0 := fun j => by rw [hh3, mI_aL, hN2, if_pos rfl]
  refine Y.dup cx wd rfl dL_law_11 (pc' := 12) rfl ?_
  refine Y.callI cx wd (a := x + 35) (rm := rm_X6_init) (As := []) (st := [rf (x + 35)]) dL_law_12 ck_L_73 rfl rfl ⟨Nat.le_of_ble_eq_true rfl, Nat.le_of_ble_eq_true rfl⟩ (show 0 + 1 + 34 + 1 + 3 ≤ 601024 by omega) (show 0 + 5 + 5770 + 13 + 35408 ≤ 7293034 by omega) (Nat.le_of_ble_eq_true rfl) (pc' := 15) rfl (k_X6_init hT3 hN3 (hI3 1) (hI3 2) (hI3 5)) (fun q4 h4 e4 => ?_)
  obtain ⟨rfl, hM4, hNw4⟩ := e4
  have hN4 : mN h4 = x + 39 := by rw [hNw4.1]
  refine Y.astore_n cx wd (i := 2) (ls' := [some (rf b), some (rf x), some (rf (x + 35)), none, none, none, none, none, none]) (hi := rfl) (hd := dL_law_15) (by decide) rfl rfl (pc' := 16) rfl ?_
  refine Y.iconst cx wd dL_law_16 (pc' := 17) rfl ?_
  refine Y.newa cx wd (N := 1) (t := 12) dL_law_17 (Or.inr (Or.inr ⟨rfl, rfl⟩)) wd_1023 rfl (by decide) (show 0 + 1 + 34 + 1 + 3 + 1 ≤ 601024 by omega) (show 0 + 5 + 5770 + 13 + 35408 + 1 ≤ 7293034 by omega) (pc' := 19) rfl ?_
  refine Y.genH (fun h5 hh5 => ?_)
  rw [hN4]
  refine Y.astore_n cx wd (i := 3) (ls' := [some (rf b), some (rf x), some (rf (x + 35)), some (rf (x + 39)), none, none, none, none, none]) (hi := rfl) (hd := dL_law_19) (by decide) rfl rfl (pc' := 20) rfl ?_
  refine Y.iconst cx wd dL_law_20 (pc' := 21) rfl ?_
  refine Y.istore cx wd (i := 4) (ls' := [some (rf b), some (rf x), some (rf (x + 35)), some (rf (x + 39)), some (vi 0), none, none, none, none]) (hd := dL_law_21) (by decide) rfl rfl (pc' := 23) rfl ?_
  have hN5 : mN h5 = x + 40 := by rw [hh5, mN_aL, hN4]
  have s45 : ∀ q, q ≠ x + 39 → Sam h4 h5 q := fun q z => by rw [hh5]; exact aL_sam (by rw [hN4]; exact z)
  have s25 : ∀ q, q < x + 35 → Sam h2 h5 q := fun q z => ((show Sam h2 h3 q by rw [hh3]; exact aL_sam (by rw [hN2]; omega)).tr (hNw4.sam (a := q) (by omega))).tr (s45 q (by omega))
  have hLI : LI h5 x (x + 35) (x + 39) (x + 40) lNew := ⟨hE2.lift hN2 ⟨by omega, by omega⟩ s25, hM4.sam (fun q z1 z2 => s45 q (by omega)), by rw [hh5, mT_aL, hN4, if_pos rfl], by omega, by omega, by omega⟩
  exact y_loop cx wd sc hLs fin _ 0 _ _ h5 lNew (Nat.lt_succ_self _) (by decide) (by decide) (by show ((0 + 1 + 34 + 1 + 3 + 1 : Nat) : Int) ≤ 1000 + 10 * 0; decide) (by show ((0 + 5 + 5770 + 13 + 35408 + 1 : Nat) : Int) ≤ 60000 + 1500 * 0; decide) hLI
