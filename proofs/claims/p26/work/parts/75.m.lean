/-! ===== a new line, a new model ===== -/
def lNew : lS := (aNew, (0, fun _ => aNew), (0, aNew), (0, fun _ => 0))
theorem lNew_ok : lO lNew := by
  refine ⟨⟨aPast_new, fun i h1 h2 => ?_, fun z => ?_⟩, ⟨aNew_ok, fun i h1 h2 => ?_, fun z => ?_⟩, ⟨by decide, by decide⟩, Or.inl rfl, ⟨by decide, by decide⟩, fun j h1 h2 => ?_⟩
  · exact aPast_new
  · exact aPast_new
  · exact aNew_ok
  · exact aNew_ok
  · have h2 : j < 0 := h2
    omega
theorem sR_sam {h : xM} {a c : Nat} {k : Int} {v : Option Nat} (hc : c ≠ a) : Sam h (sR h a k v) c := ⟨rfl, rfl, funext fun j => by rw [mR_sR, if_neg (fun z => hc z.1)], rfl⟩
theorem aL_sam {h : xM} {t n c : Nat} (hc : c ≠ mN h) : Sam h (aL h t n) c := ⟨by rw [mT_aL, if_neg hc], funext fun j => by rw [mI_aL, if_neg hc], funext fun j => by rw [mR_aL, if_neg hc], funext fun j => by rw [mL_aL, if_neg hc]⟩
set_option maxHeartbeats 4000000 in
set_option maxRecDepth 100000 in
theorem k_X5_init {Ω : xO} {h : xM} {x : Nat} (hT : mT h x = some (5, 5)) (hN : mN h = x + 1) (z4 : mR h x 4 = none) : xCt Ω yX5_init cX5_init 2 none rm_X5_init [rf x] h (fun q h' => q = none ∧ EL h' x (x + 35) lNew ∧ mN h' = x + 35 ∧ ∀ c, c < x → Sam h h' c) xNo := by
  refine xCt_of (ini := true) (by decide +kernel) (Nat.le_of_ble_eq_true rfl) (fun q => rfl) ?_
  generalize hPR : (fun q h' => q = none ∧ EL h' x (x + 35) lNew ∧ mN h' = x + 35 ∧ ∀ c, c < x → Sam h h' c : Option xV → xM → Prop) = PR
  have K0 : X Ω RX5 cX5_init 2 none true rm_X5_init PR xNo 0 0 0 [some (rf x), none] [] h := ?_
  exact K0
  refine X.aload_n (i := 0) rfl rfl dX5_init_0 (pc' := 1) rfl ?_
  refine X.objInit dX5_init_1 wd_40 wd_41 wd_42 ⟨Nat.le_of_ble_eq_true rfl, Nat.le_of_ble_eq_true rfl⟩ (pc' := 4) rfl ?_
  refine X.new (ci := 0) dX5_init_4 xcl_0 (by decide) rfl wd_43 wd_44 wd_22 (Nat.le_of_ble_eq_true rfl) (Nat.le_of_ble_eq_true rfl) (pc' := 7) rfl ?_
  refine X.genH (fun h1 hh1 => ?_)
  rw [hN]
  have nh1 : mN h1 = x + 2 := by rw [hh1, mN_aL, hN]
  have th1 : mT h1 (x + 1) = some (0, 12) := by rw [hh1, mT_aL, hN, if_pos rfl]
  have ih1 : ∀ j, mI h1 (x + 1) j = 0 := fun j => by rw [hh1, mI_aL, hN, if_pos rfl]
  refine X.dup rfl dX5_init_7 (pc' := 8) rfl ?_
  refine X.callIN (a := (x + 1)) (rm := rm_X0_init) (As := []) (st := [rf ((x + 1))]) dX5_init_8 ck_X5_9 rfl rfl rfl ⟨Nat.le_of_ble_eq_true rfl, Nat.le_of_ble_eq_true rfl⟩ (Nat.le_of_ble_eq_true rfl) (Nat.le_of_ble_eq_true rfl) (Nat.le_of_ble_eq_true rfl) (pc' := 11) rfl (k_X0_init th1 nh1 (ih1 0) (ih1 1)) (fun q2 hq2 eq2 => ?_)
  obtain ⟨rfl, rc, nw1⟩ := eq2
  have nhq2 : mN hq2 = x + 30 := by rw [nw1.1]
  refine X.astore_n (i := 1) (ls' := [some (rf x), some (rf ((x + 1)))]) (hi := rfl) (hd := dX5_init_11) (by decide) rfl rfl (pc' := 12) rfl ?_
  refine X.aload_n (i := 0) rfl rfl dX5_init_12 (pc' := 13) rfl ?_
  refine X.aload_n (i := 1) rfl rfl dX5_init_13 (pc' := 14) rfl ?_
  refine X.putR fk_X5_10 xcl_5 ⟨_, rfl, Or.inr ⟨rfl, rfl⟩⟩ dX5_init_14 (by rw [(nw1.sam (a := x) (by omega)).1, (show mT h1 x = mT h x by rw [hh1]; exact (aL_sam (by rw [hN]; omega)).1)]; exact hT) (pc' := 17) rfl ?_
  refine X.genH (fun h3 hh3 => ?_)
  have wh3 : ∀ (w0 : Nat) (w1 : Int), mR h3 w0 w1 = if w0 = x ∧ w1 = 0 then some ((x + 1)) else mR hq2 w0 w1 := fun _ _ => by rw [hh3]; rfl
  have nh3 : mN h3 = x + 30 := by rw [hh3]; exact nhq2
  refine X.aload_n (i := 0) rfl rfl dX5_init_17 (pc' := 18) rfl ?_
  refine X.new (ci := 3) dX5_init_18 xcl_3 (by decide) rfl wd_106 wd_107 wd_23 (Nat.le_of_ble_eq_true rfl) (Nat.le_of_ble_eq_true rfl) (pc' := 21) rfl ?_
  refine X.genH (fun h4 hh4 => ?_)
  rw [nh3]
  have nh4 : mN h4 = x + 31 := by rw [hh4, mN_aL, nh3]
  have th4 : mT h4 (x + 30) = some (3, 1) := by rw [hh4, mT_aL, nh3, if_pos rfl]
  have ih4 : ∀ j, mI h4 (x + 30) j = 0 := fun j => by rw [hh4, mI_aL, nh3, if_pos rfl]
  refine X.dup rfl dX5_init_21 (pc' := 22) rfl ?_
  refine X.aload_n (i := 1) rfl rfl dX5_init_22 (pc' := 23) rfl ?_
  refine X.callI (a := (x + 30)) (rm := rm_X3_init) (As := [rf ((x + 1))]) (st := [rf ((x + 30)), rf x]) dX5_init_23 ck_X5_18 rfl rfl ⟨Nat.le_of_ble_eq_true rfl, Nat.le_of_ble_eq_true rfl⟩ (Nat.le_of_ble_eq_true rfl) (Nat.le_of_ble_eq_true rfl) (Nat.le_of_ble_eq_true rfl) (pc' := 26) rfl (k_X3_init th4 nh4) (fun q5 hq5 eq5 => ?_)
  obtain ⟨rfl, rp, nw30⟩ := eq5
  have nhq5 : mN hq5 = x + 31 := by rw [nw30.1]
  refine X.putR fk_X5_21 xcl_5 ⟨_, rfl, Or.inr ⟨rfl, rfl⟩⟩ dX5_init_26 (by rw [(nw30.sam (a := x) (by omega)).1, (show mT h4 x = mT h3 x by rw [hh4]; exact (aL_sam (by rw [nh3]; omega)).1), (show mT h3 = mT hq2 by rw [hh3]; rfl), (nw1.sam (a := x) (by omega)).1, (show mT h1 x = mT h x by rw [hh1]; exact (aL_sam (by rw [hN]; omega)).1)]; exact hT) (pc' := 29) rfl ?_
  refine X.genH (fun h6 hh6 => ?_)
  have wh6 : ∀ (w0 : Nat) (w1 : Int), mR h6 w0 w1 = if w0 = x ∧ w1 = 1 then some ((x + 30)) else mR hq5 w0 w1 := fun _ _ => by rw [hh6]; rfl
  have nh6 : mN h6 = x + 31 := by rw [hh6]; exact nhq5
  refine X.aload_n (i := 0) rfl rfl dX5_init_29 (pc' := 30) rfl ?_
  refine X.new (ci := 2) dX5_init_30 xcl_2 (by decide) rfl wd_116 wd_117 wd_24 (Nat.le_of_ble_eq_true rfl) (Nat.le_of_ble_eq_true rfl) (pc' := 33) rfl ?_
  refine X.genH (fun h7 hh7 => ?_)
  rw [nh6]
  have nh7 : mN h7 = x + 32 := by rw [hh7, mN_aL, nh6]
  have th7 : mT h7 (x + 31) = some (2, 2) := by rw [hh7, mT_aL, nh6, if_pos rfl]
  have ih7 : ∀ j, mI h7 (x + 31) j = 0 := fun j => by rw [hh7, mI_aL, nh6, if_pos rfl]
  refine X.dup rfl dX5_init_33 (pc' := 34) rfl ?_
  refine X.callIN (a := (x + 31)) (rm := rm_X2_init) (As := []) (st := [rf ((x + 31)), rf x]) dX5_init_34 ck_X5_27 rfl rfl rfl ⟨Nat.le_of_ble_eq_true rfl, Nat.le_of_ble_eq_true rfl⟩ (Nat.le_of_ble_eq_true rfl) (Nat.le_of_ble_eq_true rfl) (Nat.le_of_ble_eq_true rfl) (pc' := 37) rfl (k_X2_init th7 nh7) (fun q8 hq8 eq8 => ?_)
  obtain ⟨rfl, hi, hi0, hj, nw31⟩ := eq8
  have nhq8 : mN hq8 = x + 33 := by rw [nw31.1]
  refine X.putR fk_X5_28 xcl_5 ⟨_, rfl, Or.inr ⟨rfl, rfl⟩⟩ dX5_init_37 (by rw [(nw31.sam (a := x) (by omega)).1, (show mT h7 x = mT h6 x by rw [hh7]; exact (aL_sam (by rw [nh6]; omega)).1), (show mT h6 = mT hq5 by rw [hh6]; rfl), (nw30.sam (a := x) (by omega)).1, (show mT h4 x = mT h3 x by rw [hh4]; exact (aL_sam (by rw [nh3]; omega)).1), (show mT h3 = mT hq2 by rw [hh3]; rfl), (nw1.sam (a := x) (by omega)).1, (show mT h1 x = mT h x by rw [hh1]; exact (aL_sam (by rw [hN]; omega)).1)]; exact hT) (pc' := 40) rfl ?_
  refine X.genH (fun h9 hh9 => ?_)
  have wh9 : ∀ (w0 : Nat) (w1 : Int), mR h9 w0 w1 = if w0 = x ∧ w1 = 2 then some ((x + 31)) else mR hq8 w0 w1 := fun _ _ => by rw [hh9]; rfl
  have nh9 : mN h9 = x + 33 := by rw [hh9]; exact nhq8
  refine X.aload_n (i := 0) rfl rfl dX5_init_40 (pc' := 41) rfl ?_
  refine X.new (ci := 4) dX5_init_41 xcl_4 (by decide) rfl wd_132 wd_133 wd_25 (Nat.le_of_ble_eq_true rfl) (Nat.le_of_ble_eq_true rfl) (pc' := 44) rfl ?_
  refine X.genH (fun h10 hh10 => ?_)
  rw [nh9]
  have nh10 : mN h10 = x + 34 := by rw [hh10, mN_aL, nh9]
  have th10 : mT h10 (x + 33) = some (4, 2) := by rw [hh10, mT_aL, nh9, if_pos rfl]
  have ih10 : ∀ j, mI h10 (x + 33) j = 0 := fun j => by rw [hh10, mI_aL, nh9, if_pos rfl]
  refine X.dup rfl dX5_init_44 (pc' := 45) rfl ?_
  refine X.callIN (a := (x + 33)) (rm := rm_X4_init) (As := []) (st := [rf ((x + 33)), rf x]) dX5_init_45 ck_X5_34 rfl rfl rfl ⟨Nat.le_of_ble_eq_true rfl, Nat.le_of_ble_eq_true rfl⟩ (Nat.le_of_ble_eq_true rfl) (Nat.le_of_ble_eq_true rfl) (Nat.le_of_ble_eq_true rfl) (pc' := 48) rfl (k_X4_init th10 nh10) (fun q11 hq11 eq11 => ?_)
  obtain ⟨rfl, txs, tx0, nw33⟩ := eq11
  have nhq11 : mN hq11 = x + 35 := by rw [nw33.1]
  refine X.putR fk_X5_35 xcl_5 ⟨_, rfl, Or.inr ⟨rfl, rfl⟩⟩ dX5_init_48 (by rw [(nw33.sam (a := x) (by omega)).1, (show mT h10 x = mT h9 x by rw [hh10]; exact (aL_sam (by rw [nh9]; omega)).1), (show mT h9 = mT hq8 by rw [hh9]; rfl), (nw31.sam (a := x) (by omega)).1, (show mT h7 x = mT h6 x by rw [hh7]; exact (aL_sam (by rw [nh6]; omega)).1), (show mT h6 = mT hq5 by rw [hh6]; rfl), (nw30.sam (a := x) (by omega)).1, (show mT h4 x = mT h3 x by rw [hh4]; exact (aL_sam (by rw [nh3]; omega)).1), (show mT h3 = mT hq2 by rw [hh3]; rfl), (nw1.sam (a := x) (by omega)).1, (show mT h1 x = mT h x by rw [hh1]; exact (aL_sam (by rw [hN]; omega)).1)]; exact hT) (pc' := 51) rfl ?_
  refine X.genH (fun h12 hh12 => ?_)
  have wh12 : ∀ (w0 : Nat) (w1 : Int), mR h12 w0 w1 = if w0 = x ∧ w1 = 3 then some ((x + 33)) else mR hq11 w0 w1 := fun _ _ => by rw [hh12]; rfl
  have nh12 : mN h12 = x + 35 := by rw [hh12]; exact nhq11
  refine X.vret dX5_init_51 rfl (Nat.le_of_ble_eq_true rfl) (Nat.le_of_ble_eq_true rfl) ?_
  subst hPR
  have s0 : ∀ c, x + 1 ≤ c → c < x + 30 → Sam hq2 h12 c := fun c y1 y2 => ((((((((((show Sam hq2 h3 c by rw [hh3]; exact sR_sam (by omega))).tr (show Sam h3 h4 c by rw [hh4]; exact aL_sam (by rw [nh3]; omega))).tr (nw30.sam (a := c) (by omega))).tr (show Sam hq5 h6 c by rw [hh6]; exact sR_sam (by omega))).tr (show Sam h6 h7 c by rw [hh7]; exact aL_sam (by rw [nh6]; omega))).tr (nw31.sam (a := c) (by omega))).tr (show Sam hq8 h9 c by rw [hh9]; exact sR_sam (by omega))).tr (show Sam h9 h10 c by rw [hh10]; exact aL_sam (by rw [nh9]; omega))).tr (nw33.sam (a := c) (by omega))).tr (show Sam hq11 h12 c by rw [hh12]; exact sR_sam (by omega))
  have s30 : Sam hq5 h12 (x + 30) := (((((((show Sam hq5 h6 (x + 30) by rw [hh6]; exact sR_sam (by omega))).tr (show Sam h6 h7 (x + 30) by rw [hh7]; exact aL_sam (by rw [nh6]; omega))).tr (nw31.sam (a := (x + 30)) (by omega))).tr (show Sam hq8 h9 (x + 30) by rw [hh9]; exact sR_sam (by omega))).tr (show Sam h9 h10 (x + 30) by rw [hh10]; exact aL_sam (by rw [nh9]; omega))).tr (nw33.sam (a := (x + 30)) (by omega))).tr (show Sam hq11 h12 (x + 30) by rw [hh12]; exact sR_sam (by omega))
  have s31 : Sam hq8 h12 (x + 31) := ((((show Sam hq8 h9 (x + 31) by rw [hh9]; exact sR_sam (by omega))).tr (show Sam h9 h10 (x + 31) by rw [hh10]; exact aL_sam (by rw [nh9]; omega))).tr (nw33.sam (a := (x + 31)) (by omega))).tr (show Sam hq11 h12 (x + 31) by rw [hh12]; exact sR_sam (by omega))
  have s32 : Sam hq8 h12 (x + 31 + 1) := ((((show Sam hq8 h9 (x + 31 + 1) by rw [hh9]; exact sR_sam (by omega))).tr (show Sam h9 h10 (x + 31 + 1) by rw [hh10]; exact aL_sam (by rw [nh9]; omega))).tr (nw33.sam (a := (x + 31 + 1)) (by omega))).tr (show Sam hq11 h12 (x + 31 + 1) by rw [hh12]; exact sR_sam (by omega))
  have s33 : Sam hq11 h12 (x + 33) := (show Sam hq11 h12 (x + 33) by rw [hh12]; exact sR_sam (by omega))
  have s34 : Sam hq11 h12 (x + 33 + 1) := (show Sam hq11 h12 (x + 33 + 1) by rw [hh12]; exact sR_sam (by omega))
  have hRC : RC h12 (x + 1) aNew := rc.sam (fun c y1 y2 => s0 c y1 (by omega))
  have hR4 : mR h12 x 4 = none := by rw [wh12, if_neg (by omega), (nw33.sam (a := x) (by omega)).2.2.1, (show mR h10 x = mR h9 x by rw [hh10]; exact (aL_sam (by rw [nh9]; omega)).2.2.1), wh9, if_neg (by omega), (nw31.sam (a := x) (by omega)).2.2.1, (show mR h7 x = mR h6 x by rw [hh7]; exact (aL_sam (by rw [nh6]; omega)).2.2.1), wh6, if_neg (by omega), (nw30.sam (a := x) (by omega)).2.2.1, (show mR h4 x = mR h3 x by rw [hh4]; exact (aL_sam (by rw [nh3]; omega)).2.2.1), wh3, if_neg (by omega), (nw1.sam (a := x) (by omega)).2.2.1, (show mR h1 x = mR h x by rw [hh1]; exact (aL_sam (by rw [hN]; omega)).2.2.1)]; exact z4
  have hEl : ElS h12 x := ⟨(by rw [(show mT h12 = mT hq11 by rw [hh12]; rfl), (nw33.sam (a := x) (by omega)).1, (show mT h10 x = mT h9 x by rw [hh10]; exact (aL_sam (by rw [nh9]; omega)).1), (show mT h9 = mT hq8 by rw [hh9]; rfl), (nw31.sam (a := x) (by omega)).1, (show mT h7 x = mT h6 x by rw [hh7]; exact (aL_sam (by rw [nh6]; omega)).1), (show mT h6 = mT hq5 by rw [hh6]; rfl), (nw30.sam (a := x) (by omega)).1, (show mT h4 x = mT h3 x by rw [hh4]; exact (aL_sam (by rw [nh3]; omega)).1), (show mT h3 = mT hq2 by rw [hh3]; rfl), (nw1.sam (a := x) (by omega)).1, (show mT h1 x = mT h x by rw [hh1]; exact (aL_sam (by rw [hN]; omega)).1)]; exact hT), by rw [wh12, if_neg (by omega), (nw33.sam (a := x) (by omega)).2.2.1, (show mR h10 x = mR h9 x by rw [hh10]; exact (aL_sam (by rw [nh9]; omega)).2.2.1), wh9, if_neg (by omega), (nw31.sam (a := x) (by omega)).2.2.1, (show mR h7 x = mR h6 x by rw [hh7]; exact (aL_sam (by rw [nh6]; omega)).2.2.1), wh6, if_neg (by omega), (nw30.sam (a := x) (by omega)).2.2.1, (show mR h4 x = mR h3 x by rw [hh4]; exact (aL_sam (by rw [nh3]; omega)).2.2.1), wh3, if_pos ⟨rfl, rfl⟩], by rw [wh12, if_neg (by omega), (nw33.sam (a := x) (by omega)).2.2.1, (show mR h10 x = mR h9 x by rw [hh10]; exact (aL_sam (by rw [nh9]; omega)).2.2.1), wh9, if_neg (by omega), (nw31.sam (a := x) (by omega)).2.2.1, (show mR h7 x = mR h6 x by rw [hh7]; exact (aL_sam (by rw [nh6]; omega)).2.2.1), wh6, if_pos ⟨rfl, rfl⟩], by rw [wh12, if_neg (by omega), (nw33.sam (a := x) (by omega)).2.2.1, (show mR h10 x = mR h9 x by rw [hh10]; exact (aL_sam (by rw [nh9]; omega)).2.2.1), wh9, if_pos ⟨rfl, rfl⟩], by rw [wh12, if_pos ⟨rfl, rfl⟩], hRC.1.1, rp.sam s30, hi.sam s31 s32, txs.sam s33 s34⟩
  have hnull : ∀ j, mR h12 (x + 31 + 1) j = none := fun j => by rw [s32.2.2.1]; exact hj j
  have hHz : mI h12 (x + 31) 0 = 0 := by rw [s31.2.1, hi0, ih7]
  have hTz : mI h12 (x + 33) 0 = 0 := by rw [s33.2.1, tx0, ih10]
  refine ⟨rfl, ⟨hEl, hRC, ⟨hEl.2.2.2.2.2.2.2.1, hHz, ⟨by decide, by decide⟩, fun i y1 y2 => Or.inl ⟨hnull i, y1⟩, fun i j c c' y1 y2 y3 y4 y5 => by rw [hnull] at y4; cases y4⟩, Or.inl ⟨hR4, rfl⟩, ⟨hTz, ⟨by decide, by decide⟩, fun j y1 y2 => ?_⟩, lNew_ok.1, Nat.le_refl _, by omega⟩, by omega, fun c y => ?_⟩
  · have y2 : j < 0 := y2
    omega
  · exact ((((((((((((show Sam h h1 c by rw [hh1]; exact aL_sam (by rw [hN]; omega))).tr (nw1.sam (a := c) (by omega))).tr (show Sam hq2 h3 c by rw [hh3]; exact sR_sam (by omega))).tr (show Sam h3 h4 c by rw [hh4]; exact aL_sam (by rw [nh3]; omega))).tr (nw30.sam (a := c) (by omega))).tr (show Sam hq5 h6 c by rw [hh6]; exact sR_sam (by omega))).tr (show Sam h6 h7 c by rw [hh7]; exact aL_sam (by rw [nh6]; omega))).tr (nw31.sam (a := c) (by omega))).tr (show Sam hq8 h9 c by rw [hh9]; exact sR_sam (by omega))).tr (show Sam h9 h10 c by rw [hh10]; exact aL_sam (by rw [nh9]; omega))).tr (nw33.sam (a := c) (by omega))).tr (show Sam hq11 h12 c by rw [hh12]; exact sR_sam (by omega))
