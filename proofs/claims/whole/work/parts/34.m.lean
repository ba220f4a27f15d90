set_option maxHeartbeats 4000000 in
set_option maxRecDepth 100000 in
theorem k_X1_init {Ω : xO} {h : xM} {b : Nat} (hT : mT h b = some (1, 1)) (hN : mN h = b + 1) : xCt Ω yX1_init cX1_init 1 none rm_X1_init [rf b] h (fun q h' => q = none ∧ mT h' b = some (1, 1) ∧ mL h' b 0 = 3853 ∧ NewS h h' b 1) xNo := by
  refine xCt_of (ini := true) (by decide +kernel) (Nat.le_of_ble_eq_true rfl) (fun q => rfl) ?_
  generalize hPR : (fun q h' => q = none ∧ mT h' b = some (1, 1) ∧ mL h' b 0 = 3853 ∧ NewS h h' b 1 : Option xV → xM → Prop) = PR
  have K0 : X Ω RX1 cX1_init 1 none true rm_X1_init PR xNo 0 0 0 [some (rf b)] [] h := ?_
  exact K0
  refine X.aload_n (i := 0) rfl rfl dX1_init_0 (pc' := 1) rfl ?_
  refine X.objInit dX1_init_1 wd_288 wd_82 wd_83 ⟨Nat.le_of_ble_eq_true rfl, Nat.le_of_ble_eq_true rfl⟩ (pc' := 4) rfl ?_
  refine X.aload_n (i := 0) rfl rfl dX1_init_4 (pc' := 5) rfl ?_
  refine X.ldc2 (v := 3853) wd_289 dX1_init_5 (pc' := 8) rfl ?_
  refine X.putL fk_X1_9 xcl_1 ⟨_, rfl, Or.inl rfl⟩ dX1_init_8 hT (pc' := 11) rfl ?_
  refine X.genH (fun h1 hh1 => ?_)
  have nh1 : mN h1 = _ := (show mN h1 = mN h by rw [hh1]; rfl).trans hN
  have th1 : ∀ a, mT h1 a = mT h a := fun a => by rw [hh1]; rfl
  have ih1 : ∀ (a : Nat) (j : Int), mI h1 a j = mI h a j := fun a j => by rw [hh1]; rfl
  have rh1 : ∀ (a : Nat) (j : Int), mR h1 a j = mR h a j := fun a j => by rw [hh1]; rfl
  have lh1 : ∀ (a : Nat) (j : Int), mL h1 a j = if a = b ∧ j = 0 then 3853 else mL h a j := fun a j => by rw [hh1]; rfl
  refine X.vret dX1_init_11 rfl (Nat.le_of_ble_eq_true rfl) (Nat.le_of_ble_eq_true rfl) ?_
  subst hPR
  exact ⟨rfl, by rw [th1]; exact hT, by rw [lh1, if_pos ⟨rfl, rfl⟩], ⟨nh1, fun a ha => ⟨by rw [th1], funext fun j => by rw [ih1], funext fun j => by rw [rh1], funext fun j => by rw [lh1, if_neg (by omega)]⟩⟩⟩
set_option maxHeartbeats 4000000 in
set_option maxRecDepth 100000 in
theorem k_X2_init {Ω : xO} {h : xM} {b : Nat} (hT : mT h b = some (2, 2)) (hN : mN h = b + 1) : xCt Ω yX2_init cX2_init 1 none rm_X2_init [rf b] h (fun q h' => q = none ∧ HiS h' b ∧ mI h' b 0 = mI h b 0 ∧ (∀ j, mR h' (b + 1) j = none) ∧ NewS h h' b 2) xNo := by
  refine xCt_of (ini := true) (by decide +kernel) (Nat.le_of_ble_eq_true rfl) (fun q => rfl) ?_
  generalize hPR : (fun q h' => q = none ∧ HiS h' b ∧ mI h' b 0 = mI h b 0 ∧ (∀ j, mR h' (b + 1) j = none) ∧ NewS h h' b 2 : Option xV → xM → Prop) = PR
  have K0 : X Ω RX2 cX2_init 1 none true rm_X2_init PR xNo 0 0 0 [some (rf b)] [] h := ?_
  exact K0
  refine X.aload_n (i := 0) rfl rfl dX2_init_0 (pc' := 1) rfl ?_
  refine X.objInit dX2_init_1 wd_162 wd_82 wd_83 ⟨Nat.le_of_ble_eq_true rfl, Nat.le_of_ble_eq_true rfl⟩ (pc' := 4) rfl ?_
  refine X.aload_n (i := 0) rfl rfl dX2_init_4 (pc' := 5) rfl ?_
  refine X.bipush (by decide +kernel) dX2_init_5 (pc' := 7) rfl ?_
  refine X.anew (N := 6) dX2_init_7 wd_163 rfl (by decide) (Nat.le_of_ble_eq_true rfl) (Nat.le_of_ble_eq_true rfl) (pc' := 10) rfl ?_
  refine X.genH (fun h1 hh1 => ?_)
  rw [hN]
  have nh1 : mN h1 = b + 2 := by rw [hh1, mN_aL, hN]
  have th1 : ∀ a, mT h1 a = if a = b + 1 then some (14, 6) else mT h a := fun a => by rw [hh1, mT_aL, hN]
  have ih1 : ∀ (a : Nat) (j : Int), mI h1 a j = if a = b + 1 then 0 else mI h a j := fun a j => by rw [hh1, mI_aL, hN]
  have rh1 : ∀ (a : Nat) (j : Int), mR h1 a j = if a = b + 1 then none else mR h a j := fun a j => by rw [hh1, mR_aL, hN]
  have lh1 : ∀ (a : Nat) (j : Int), mL h1 a j = if a = b + 1 then 0 else mL h a j := fun a j => by rw [hh1, mL_aL, hN]
  refine X.putR fk_X2_11 xcl_2 ⟨_, rfl, Or.inr ⟨rfl, rfl⟩⟩ dX2_init_10 (by rw [th1, if_neg (by omega)]; exact hT) (pc' := 13) rfl ?_
  refine X.genH (fun h2 hh2 => ?_)
  have nh2 : mN h2 = _ := (show mN h2 = mN h1 by rw [hh2]; rfl).trans nh1
  have th2 : ∀ a, mT h2 a = mT h1 a := fun a => by rw [hh2]; rfl
  have ih2 : ∀ (a : Nat) (j : Int), mI h2 a j = mI h1 a j := fun a j => by rw [hh2]; rfl
  have rh2 : ∀ (a : Nat) (j : Int), mR h2 a j = if a = b ∧ j = 1 then some ((b + 1)) else mR h1 a j := fun a j => by rw [hh2]; rfl
  have lh2 : ∀ (a : Nat) (j : Int), mL h2 a j = mL h1 a j := fun a j => by rw [hh2]; rfl
  refine X.vret dX2_init_13 rfl (Nat.le_of_ble_eq_true rfl) (Nat.le_of_ble_eq_true rfl) ?_
  subst hPR
  exact ⟨rfl, ⟨by rw [th2, th1, if_neg (by omega)]; exact hT, by rw [rh2, if_pos ⟨rfl, rfl⟩], by rw [th2, th1, if_pos rfl]⟩, by rw [ih2, ih1, if_neg (by omega)], fun j => by rw [rh2, if_neg (by omega), rh1, if_pos rfl], ⟨nh2, fun a ha => ⟨by rw [th2, th1, if_neg (by omega)], funext fun j => by rw [ih2, ih1, if_neg (by omega)], funext fun j => by rw [rh2, if_neg (by omega), rh1, if_neg (by omega)], funext fun j => by rw [lh2, lh1, if_neg (by omega)]⟩⟩⟩
set_option maxHeartbeats 4000000 in
set_option maxRecDepth 100000 in
theorem k_X3_init {Ω : xO} {h : xM} {b c : Nat} (hT : mT h b = some (3, 1)) (hN : mN h = b + 1) : xCt Ω yX3_init cX3_init 2 none rm_X3_init [rf b, rf c] h (fun q h' => q = none ∧ RpS h' b c ∧ NewS h h' b 1) xNo := by
  refine xCt_of (ini := true) (by decide +kernel) (Nat.le_of_ble_eq_true rfl) (fun q => rfl) ?_
  generalize hPR : (fun q h' => q = none ∧ RpS h' b c ∧ NewS h h' b 1 : Option xV → xM → Prop) = PR
  have K0 : X Ω RX3 cX3_init 2 none true rm_X3_init PR xNo 0 0 0 [some (rf b), some (rf c)] [] h := ?_
  exact K0
  refine X.aload_n (i := 0) rfl rfl dX3_init_0 (pc' := 1) rfl ?_
  refine X.objInit dX3_init_1 wd_152 wd_82 wd_83 ⟨Nat.le_of_ble_eq_true rfl, Nat.le_of_ble_eq_true rfl⟩ (pc' := 4) rfl ?_
  refine X.aload_n (i := 0) rfl rfl dX3_init_4 (pc' := 5) rfl ?_
  refine X.aload_n (i := 1) rfl rfl dX3_init_5 (pc' := 6) rfl ?_
  refine X.putR fk_X3_9 xcl_3 ⟨_, rfl, Or.inr ⟨rfl, rfl⟩⟩ dX3_init_6 hT (pc' := 9) rfl ?_
  refine X.genH (fun h1 hh1 => ?_)
  have nh1 : mN h1 = _ := (show mN h1 = mN h by rw [hh1]; rfl).trans hN
  have th1 : ∀ a, mT h1 a = mT h a := fun a => by rw [hh1]; rfl
  have ih1 : ∀ (a : Nat) (j : Int), mI h1 a j = mI h a j := fun a j => by rw [hh1]; rfl
  have rh1 : ∀ (a : Nat) (j : Int), mR h1 a j = if a = b ∧ j = 0 then some c else mR h a j := fun a j => by rw [hh1]; rfl
  have lh1 : ∀ (a : Nat) (j : Int), mL h1 a j = mL h a j := fun a j => by rw [hh1]; rfl
  refine X.vret dX3_init_9 rfl (Nat.le_of_ble_eq_true rfl) (Nat.le_of_ble_eq_true rfl) ?_
  subst hPR
  exact ⟨rfl, ⟨by rw [th1]; exact hT, by rw [rh1, if_pos ⟨rfl, rfl⟩]⟩, ⟨nh1, fun a ha => ⟨by rw [th1], funext fun j => by rw [ih1], funext fun j => by rw [rh1, if_neg (by omega)], funext fun j => by rw [lh1]⟩⟩⟩
set_option maxHeartbeats 4000000 in
set_option maxRecDepth 100000 in
theorem k_X4_init {Ω : xO} {h : xM} {b : Nat} (hT : mT h b = some (4, 2)) (hN : mN h = b + 1) : xCt Ω yX4_init cX4_init 1 none rm_X4_init [rf b] h (fun q h' => q = none ∧ TxS h' b ∧ mI h' b 0 = mI h b 0 ∧ NewS h h' b 2) xNo := by
  refine xCt_of (ini := true) (by decide +kernel) (Nat.le_of_ble_eq_true rfl) (fun q => rfl) ?_
  generalize hPR : (fun q h' => q = none ∧ TxS h' b ∧ mI h' b 0 = mI h b 0 ∧ NewS h h' b 2 : Option xV → xM → Prop) = PR
  have K0 : X Ω RX4 cX4_init 1 none true rm_X4_init PR xNo 0 0 0 [some (rf b)] [] h := ?_
  exact K0
  refine X.aload_n (i := 0) rfl rfl dX4_init_0 (pc' := 1) rfl ?_
  refine X.objInit dX4_init_1 wd_178 wd_82 wd_83 ⟨Nat.le_of_ble_eq_true rfl, Nat.le_of_ble_eq_true rfl⟩ (pc' := 4) rfl ?_
  refine X.aload_n (i := 0) rfl rfl dX4_init_4 (pc' := 5) rfl ?_
  refine X.bipush (by decide +kernel) dX4_init_5 (pc' := 7) rfl ?_
  refine X.newa (N := 60) (t := 11) dX4_init_7 (Or.inr (Or.inl ⟨rfl, rfl⟩)) wd_188 rfl (by decide) (Nat.le_of_ble_eq_true rfl) (Nat.le_of_ble_eq_true rfl) (pc' := 9) rfl ?_
  refine X.genH (fun h1 hh1 => ?_)
  rw [hN]
  have nh1 : mN h1 = b + 2 := by rw [hh1, mN_aL, hN]
  have th1 : ∀ a, mT h1 a = if a = b + 1 then some (11, 60) else mT h a := fun a => by rw [hh1, mT_aL, hN]
  have ih1 : ∀ (a : Nat) (j : Int), mI h1 a j = if a = b + 1 then 0 else mI h a j := fun a j => by rw [hh1, mI_aL, hN]
  have rh1 : ∀ (a : Nat) (j : Int), mR h1 a j = if a = b + 1 then none else mR h a j := fun a j => by rw [hh1, mR_aL, hN]
  have lh1 : ∀ (a : Nat) (j : Int), mL h1 a j = if a = b + 1 then 0 else mL h a j := fun a j => by rw [hh1, mL_aL, hN]
  refine X.putR fk_X4_9 xcl_4 ⟨_, rfl, Or.inr ⟨rfl, rfl⟩⟩ dX4_init_9 (by rw [th1, if_neg (by omega)]; exact hT) (pc' := 12) rfl ?_
  refine X.genH (fun h2 hh2 => ?_)
  have nh2 : mN h2 = _ := (show mN h2 = mN h1 by rw [hh2]; rfl).trans nh1
  have th2 : ∀ a, mT h2 a = mT h1 a := fun a => by rw [hh2]; rfl
  have ih2 : ∀ (a : Nat) (j : Int), mI h2 a j = mI h1 a j := fun a j => by rw [hh2]; rfl
  have rh2 : ∀ (a : Nat) (j : Int), mR h2 a j = if a = b ∧ j = 1 then some ((b + 1)) else mR h1 a j := fun a j => by rw [hh2]; rfl
  have lh2 : ∀ (a : Nat) (j : Int), mL h2 a j = mL h1 a j := fun a j => by rw [hh2]; rfl
  refine X.vret dX4_init_12 rfl (Nat.le_of_ble_eq_true rfl) (Nat.le_of_ble_eq_true rfl) ?_
  subst hPR
  exact ⟨rfl, ⟨by rw [th2, th1, if_neg (by omega)]; exact hT, by rw [rh2, if_pos ⟨rfl, rfl⟩], by rw [th2, th1, if_pos rfl]⟩, by rw [ih2, ih1, if_neg (by omega)], ⟨nh2, fun a ha => ⟨by rw [th2, th1, if_neg (by omega)], funext fun j => by rw [ih2, ih1, if_neg (by omega)], funext fun j => by rw [rh2, if_neg (by omega), rh1, if_neg (by omega)], funext fun j => by rw [lh2, lh1, if_neg (by omega)]⟩⟩⟩
