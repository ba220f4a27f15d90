set_option maxHeartbeats 4000000 in
set_option maxRecDepth 100000 in
theorem k_X0_init {Ω : xO} {h : xM} {b : Nat} (hT : mT h b = some (0, 12)) (hN : mN h = b + 1) (hz0 : mI h b 0 = 0) (hz1 : mI h b 1 = 0) : xCt Ω yX0_init cX0_init 1 none rm_X0_init [rf b] h (fun q h' => q = none ∧ RC h' b aNew ∧ NewS h h' b 29) xNo := by
  refine xCt_of (ini := true) (by decide +kernel) (Nat.le_of_ble_eq_true rfl) (fun q => rfl) ?_
  generalize hPR : (fun q h' => q = none ∧ RC h' b aNew ∧ NewS h h' b 29 : Option xV → xM → Prop) = PR
  have K0 : X Ω RX0 cX0_init 1 none true rm_X0_init PR xNo 0 0 0 [some (rf b)] [] h := ?_
  exact K0
  refine X.aload_n (i := 0) rfl rfl dX0_init_0 (pc' := 1) rfl ?_
  refine X.objInit dX0_init_1 wd_48 wd_41 wd_42 ⟨Nat.le_of_ble_eq_true rfl, Nat.le_of_ble_eq_true rfl⟩ (pc' := 4) rfl ?_
  refine X.aload_n (i := 0) rfl rfl dX0_init_4 (pc' := 5) rfl ?_
  refine X.bipush (by decide +kernel) dX0_init_5 (pc' := 7) rfl ?_
  refine X.newa (N := 6) (t := 10) dX0_init_7 (Or.inl ⟨rfl, rfl⟩) wd_105 rfl (by decide) (Nat.le_of_ble_eq_true rfl) (Nat.le_of_ble_eq_true rfl) (pc' := 9) rfl ?_
  refine X.genH (fun h1 hh1 => ?_)
  rw [hN]
  have nh1 : mN h1 = b + 2 := by rw [hh1, mN_aL, hN]
  have th1 : ∀ a, mT h1 a = if a = b + 1 then some (10, 6) else mT h a := fun a => by rw [hh1, mT_aL, hN]
  have ih1 : ∀ (a : Nat) (j : Int), mI h1 a j = if a = b + 1 then 0 else mI h a j := fun a j => by rw [hh1, mI_aL, hN]
  have rh1 : ∀ (a : Nat) (j : Int), mR h1 a j = if a = b + 1 then none else mR h a j := fun a j => by rw [hh1, mR_aL, hN]
  have lh1 : ∀ (a : Nat) (j : Int), mL h1 a j = if a = b + 1 then 0 else mL h a j := fun a j => by rw [hh1, mL_aL, hN]
  have kh1 : NewS h h1 b 2 := by rw [hh1]; exact (NewS.rf (b := b) (n := 1) hN).al
  refine X.putR fk_X0_9 xcl_0 ⟨_, rfl, Or.inr ⟨rfl, rfl⟩⟩ dX0_init_9 (by rw [th1, if_neg (by omega)]; exact hT) (pc' := 12) rfl ?_
  refine X.genH (fun h2 hh2 => ?_)
  have nh2 : mN h2 = _ := (show mN h2 = mN h1 by rw [hh2]; rfl).trans nh1
  have th2 : ∀ a, mT h2 a = mT h1 a := fun a => by rw [hh2]; rfl
  have ih2 : ∀ (a : Nat) (j : Int), mI h2 a j = mI h1 a j := fun a j => by rw [hh2]; rfl
  have rh2 : ∀ (a : Nat) (j : Int), mR h2 a j = if a = b ∧ j = 2 then some ((b + 1)) else mR h1 a j := fun a j => by rw [hh2]; rfl
  have lh2 : ∀ (a : Nat) (j : Int), mL h2 a j = mL h1 a j := fun a j => by rw [hh2]; rfl
  have kh2 : NewS h h2 b 2 := by rw [hh2]; exact kh1.wR ⟨by omega, by omega⟩
  refine X.aload_n (i := 0) rfl rfl dX0_init_12 (pc' := 13) rfl ?_
  refine X.iconst dX0_init_13 (pc' := 14) rfl ?_
  refine X.newa (N := 3) (t := 10) dX0_init_14 (Or.inl ⟨rfl, rfl⟩) wd_105 rfl (by decide) (Nat.le_of_ble_eq_true rfl) (Nat.le_of_ble_eq_true rfl) (pc' := 16) rfl ?_
  refine X.genH (fun h3 hh3 => ?_)
  rw [nh2]
  have nh3 : mN h3 = b + 3 := by rw [hh3, mN_aL, nh2]
  have th3 : ∀ a, mT h3 a = if a = b + 2 then some (10, 3) else mT h2 a := fun a => by rw [hh3, mT_aL, nh2]
  have ih3 : ∀ (a : Nat) (j : Int), mI h3 a j = if a = b + 2 then 0 else mI h2 a j := fun a j => by rw [hh3, mI_aL, nh2]
  have rh3 : ∀ (a : Nat) (j : Int), mR h3 a j = if a = b + 2 then none else mR h2 a j := fun a j => by rw [hh3, mR_aL, nh2]
  have lh3 : ∀ (a : Nat) (j : Int), mL h3 a j = if a = b + 2 then 0 else mL h2 a j := fun a j => by rw [hh3, mL_aL, nh2]
  have kh3 : NewS h h3 b 3 := by rw [hh3]; exact kh2.al
  refine X.dup rfl dX0_init_16 (pc' := 17) rfl ?_
  refine X.iconst dX0_init_17 (pc' := 18) rfl ?_
  refine X.iconst dX0_init_18 (pc' := 19) rfl ?_
  refine X.iast dX0_init_19 (by rw [th3, if_pos rfl]) (by omega) (by omega) ⟨by omega, by omega⟩ ⟨by omega, by omega⟩ (pc' := 20) rfl ?_
  refine X.genH (fun h4 hh4 => ?_)
  have nh4 : mN h4 = _ := (show mN h4 = mN h3 by rw [hh4]; rfl).trans nh3
  have th4 : ∀ a, mT h4 a = mT h3 a := fun a => by rw [hh4]; rfl
  have ih4 : ∀ (a : Nat) (j : Int), mI h4 a j = if a = (b + 2) ∧ j = 0 then 1 else mI h3 a j := fun a j => by rw [hh4]; rfl
  have rh4 : ∀ (a : Nat) (j : Int), mR h4 a j = mR h3 a j := fun a j => by rw [hh4]; rfl
  have lh4 : ∀ (a : Nat) (j : Int), mL h4 a j = mL h3 a j := fun a j => by rw [hh4]; rfl
  have kh4 : NewS h h4 b 3 := by rw [hh4]; exact kh3.wI ⟨by omega, by omega⟩
  refine X.dup rfl dX0_init_20 (pc' := 21) rfl ?_
  refine X.iconst dX0_init_21 (pc' := 22) rfl ?_
  refine X.iconst dX0_init_22 (pc' := 23) rfl ?_
  refine X.iast dX0_init_23 (by rw [th4, th3, if_pos rfl]) (by omega) (by omega) ⟨by omega, by omega⟩ ⟨by omega, by omega⟩ (pc' := 24) rfl ?_
  refine X.genH (fun h5 hh5 => ?_)
  have nh5 : mN h5 = _ := (show mN h5 = mN h4 by rw [hh5]; rfl).trans nh4
  have th5 : ∀ a, mT h5 a = mT h4 a := fun a => by rw [hh5]; rfl
  have ih5 : ∀ (a : Nat) (j : Int), mI h5 a j = if a = (b + 2) ∧ j = 1 then 1 else mI h4 a j := fun a j => by rw [hh5]; rfl
  have rh5 : ∀ (a : Nat) (j : Int), mR h5 a j = mR h4 a j := fun a j => by rw [hh5]; rfl
  have lh5 : ∀ (a : Nat) (j : Int), mL h5 a j = mL h4 a j := fun a j => by rw [hh5]; rfl
  have kh5 : NewS h h5 b 3 := by rw [hh5]; exact kh4.wI ⟨by omega, by omega⟩
  refine X.dup rfl dX0_init_24 (pc' := 25) rfl ?_
  refine X.iconst dX0_init_25 (pc' := 26) rfl ?_
  refine X.bipush (by decide +kernel) dX0_init_26 (pc' := 28) rfl ?_
  refine X.iast dX0_init_28 (by rw [th5, th4, th3, if_pos rfl]) (by omega) (by omega) ⟨by omega, by omega⟩ ⟨by omega, by omega⟩ (pc' := 29) rfl ?_
  refine X.genH (fun h6 hh6 => ?_)
  have nh6 : mN h6 = _ := (show mN h6 = mN h5 by rw [hh6]; rfl).trans nh5
  have th6 : ∀ a, mT h6 a = mT h5 a := fun a => by rw [hh6]; rfl
  have ih6 : ∀ (a : Nat) (j : Int), mI h6 a j = if a = (b + 2) ∧ j = 2 then 8 else mI h5 a j := fun a j => by rw [hh6]; rfl
  have rh6 : ∀ (a : Nat) (j : Int), mR h6 a j = mR h5 a j := fun a j => by rw [hh6]; rfl
  have lh6 : ∀ (a : Nat) (j : Int), mL h6 a j = mL h5 a j := fun a j => by rw [hh6]; rfl
  have kh6 : NewS h h6 b 3 := by rw [hh6]; exact kh5.wI ⟨by omega, by omega⟩
  refine X.putR fk_X0_15 xcl_0 ⟨_, rfl, Or.inr ⟨rfl, rfl⟩⟩ dX0_init_29 (by rw [th6, th5, th4, th3, if_neg (by omega), th2, th1, if_neg (by omega)]; exact hT) (pc' := 32) rfl ?_
  refine X.genH (fun h7 hh7 => ?_)
  have nh7 : mN h7 = _ := (show mN h7 = mN h6 by rw [hh7]; rfl).trans nh6
  have th7 : ∀ a, mT h7 a = mT h6 a := fun a => by rw [hh7]; rfl
  have ih7 : ∀ (a : Nat) (j : Int), mI h7 a j = mI h6 a j := fun a j => by rw [hh7]; rfl
  have rh7 : ∀ (a : Nat) (j : Int), mR h7 a j = if a = b ∧ j = 3 then some ((b + 2)) else mR h6 a j := fun a j => by rw [hh7]; rfl
  have lh7 : ∀ (a : Nat) (j : Int), mL h7 a j = mL h6 a j := fun a j => by rw [hh7]; rfl
  have kh7 : NewS h h7 b 3 := by rw [hh7]; exact kh6.wR ⟨by omega, by omega⟩
  refine X.aload_n (i := 0) rfl rfl dX0_init_32 (pc' := 33) rfl ?_
  refine X.sipush (by decide +kernel) dX0_init_33 (pc' := 36) rfl ?_
  refine X.newa (N := 200) (t := 10) dX0_init_36 (Or.inl ⟨rfl, rfl⟩) wd_105 rfl (by decide) (Nat.le_of_ble_eq_true rfl) (Nat.le_of_ble_eq_true rfl) (pc' := 38) rfl ?_
  refine X.genH (fun h8 hh8 => ?_)
  rw [nh7]
  have nh8 : mN h8 = b + 4 := by rw [hh8, mN_aL, nh7]
  have th8 : ∀ a, mT h8 a = if a = b + 3 then some (10, 200) else mT h7 a := fun a => by rw [hh8, mT_aL, nh7]
  have ih8 : ∀ (a : Nat) (j : Int), mI h8 a j = if a = b + 3 then 0 else mI h7 a j := fun a j => by rw [hh8, mI_aL, nh7]
  have rh8 : ∀ (a : Nat) (j : Int), mR h8 a j = if a = b + 3 then none else mR h7 a j := fun a j => by rw [hh8, mR_aL, nh7]
  have lh8 : ∀ (a : Nat) (j : Int), mL h8 a j = if a = b + 3 then 0 else mL h7 a j := fun a j => by rw [hh8, mL_aL, nh7]
  have kh8 : NewS h h8 b 4 := by rw [hh8]; exact kh7.al
  refine X.putR fk_X0_18 xcl_0 ⟨_, rfl, Or.inr ⟨rfl, rfl⟩⟩ dX0_init_38 (by rw [th8, if_neg (by omega), th7, th6, th5, th4, th3, if_neg (by omega), th2, th1, if_neg (by omega)]; exact hT) (pc' := 41) rfl ?_
  refine X.genH (fun h9 hh9 => ?_)
  have nh9 : mN h9 = _ := (show mN h9 = mN h8 by rw [hh9]; rfl).trans nh8
  have th9 : ∀ a, mT h9 a = mT h8 a := fun a => by rw [hh9]; rfl
  have ih9 : ∀ (a : Nat) (j : Int), mI h9 a j = mI h8 a j := fun a j => by rw [hh9]; rfl
  have rh9 : ∀ (a : Nat) (j : Int), mR h9 a j = if a = b ∧ j = 4 then some ((b + 3)) else mR h8 a j := fun a j => by rw [hh9]; rfl
  have lh9 : ∀ (a : Nat) (j : Int), mL h9 a j = mL h8 a j := fun a j => by rw [hh9]; rfl
  have kh9 : NewS h h9 b 4 := by rw [hh9]; exact kh8.wR ⟨by omega, by omega⟩
  refine X.aload_n (i := 0) rfl rfl dX0_init_41 (pc' := 42) rfl ?_
  refine X.sipush (by decide +kernel) dX0_init_42 (pc' := 45) rfl ?_
  refine X.newa (N := 200) (t := 10) dX0_init_45 (Or.inl ⟨rfl, rfl⟩) wd_105 rfl (by decide) (Nat.le_of_ble_eq_true rfl) (Nat.le_of_ble_eq_true rfl) (pc' := 47) rfl ?_
  refine X.genH (fun h10 hh10 => ?_)
  rw [nh9]
  have nh10 : mN h10 = b + 5 := by rw [hh10, mN_aL, nh9]
  have th10 : ∀ a, mT h10 a = if a = b + 4 then some (10, 200) else mT h9 a := fun a => by rw [hh10, mT_aL, nh9]
  have ih10 : ∀ (a : Nat) (j : Int), mI h10 a j = if a = b + 4 then 0 else mI h9 a j := fun a j => by rw [hh10, mI_aL, nh9]
  have rh10 : ∀ (a : Nat) (j : Int), mR h10 a j = if a = b + 4 then none else mR h9 a j := fun a j => by rw [hh10, mR_aL, nh9]
  have lh10 : ∀ (a : Nat) (j : Int), mL h10 a j = if a = b + 4 then 0 else mL h9 a j := fun a j => by rw [hh10, mL_aL, nh9]
  have kh10 : NewS h h10 b 5 := by rw [hh10]; exact kh9.al
  refine X.putR fk_X0_21 xcl_0 ⟨_, rfl, Or.inr ⟨rfl, rfl⟩⟩ dX0_init_47 (by rw [th10, if_neg (by omega), th9, th8, if_neg (by omega), th7, th6, th5, th4, th3, if_neg (by omega), th2, th1, if_neg (by omega)]; exact hT) (pc' := 50) rfl ?_
  refine X.genH (fun h11 hh11 => ?_)
  have nh11 : mN h11 = _ := (show mN h11 = mN h10 by rw [hh11]; rfl).trans nh10
  have th11 : ∀ a, mT h11 a = mT h10 a := fun a => by rw [hh11]; rfl
  have ih11 : ∀ (a : Nat) (j : Int), mI h11 a j = mI h10 a j := fun a j => by rw [hh11]; rfl
  have rh11 : ∀ (a : Nat) (j : Int), mR h11 a j = if a = b ∧ j = 5 then some ((b + 4)) else mR h10 a j := fun a j => by rw [hh11]; rfl
  have lh11 : ∀ (a : Nat) (j : Int), mL h11 a j = mL h10 a j := fun a j => by rw [hh11]; rfl
  have kh11 : NewS h h11 b 5 := by rw [hh11]; exact kh10.wR ⟨by omega, by omega⟩
  refine X.aload_n (i := 0) rfl rfl dX0_init_50 (pc' := 51) rfl ?_
  refine X.sipush (by decide +kernel) dX0_init_51 (pc' := 54) rfl ?_
  refine X.newa (N := 200) (t := 10) dX0_init_54 (Or.inl ⟨rfl, rfl⟩) wd_105 rfl (by decide) (Nat.le_of_ble_eq_true rfl) (Nat.le_of_ble_eq_true rfl) (pc' := 56) rfl ?_
  refine X.genH (fun h12 hh12 => ?_)
  rw [nh11]
  have nh12 : mN h12 = b + 6 := by rw [hh12, mN_aL, nh11]
  have th12 : ∀ a, mT h12 a = if a = b + 5 then some (10, 200) else mT h11 a := fun a => by rw [hh12, mT_aL, nh11]
  have ih12 : ∀ (a : Nat) (j : Int), mI h12 a j = if a = b + 5 then 0 else mI h11 a j := fun a j => by rw [hh12, mI_aL, nh11]
  have rh12 : ∀ (a : Nat) (j : Int), mR h12 a j = if a = b + 5 then none else mR h11 a j := fun a j => by rw [hh12, mR_aL, nh11]
  have lh12 : ∀ (a : Nat) (j : Int), mL h12 a j = if a = b + 5 then 0 else mL h11 a j := fun a j => by rw [hh12, mL_aL, nh11]
  have kh12 : NewS h h12 b 6 := by rw [hh12]; exact kh11.al
  refine X.putR fk_X0_24 xcl_0 ⟨_, rfl, Or.inr ⟨rfl, rfl⟩⟩ dX0_init_56 (by rw [th12, if_neg (by omega), th11, th10, if_neg (by omega), th9, th8, if_neg (by omega), th7, th6, th5, th4, th3, if_neg (by omega), th2, th1, if_neg (by omega)]; exact hT) (pc' := 59) rfl ?_
  refine X.genH (fun h13 hh13 => ?_)
  have nh13 : mN h13 = _ := (show mN h13 = mN h12 by rw [hh13]; rfl).trans nh12
  have th13 : ∀ a, mT h13 a = mT h12 a := fun a => by rw [hh13]; rfl
  have ih13 : ∀ (a : Nat) (j : Int), mI h13 a j = mI h12 a j := fun a j => by rw [hh13]; rfl
  have rh13 : ∀ (a : Nat) (j : Int), mR h13 a j = if a = b ∧ j = 6 then some ((b + 5)) else mR h12 a j := fun a j => by rw [hh13]; rfl
  have lh13 : ∀ (a : Nat) (j : Int), mL h13 a j = mL h12 a j := fun a j => by rw [hh13]; rfl
  have kh13 : NewS h h13 b 6 := by rw [hh13]; exact kh12.wR ⟨by omega, by omega⟩
  refine X.aload_n (i := 0) rfl rfl dX0_init_59 (pc' := 60) rfl ?_
  refine X.sipush (by decide +kernel) dX0_init_60 (pc' := 63) rfl ?_
  refine X.newa (N := 200) (t := 10) dX0_init_63 (Or.inl ⟨rfl, rfl⟩) wd_105 rfl (by decide) (Nat.le_of_ble_eq_true rfl) (Nat.le_of_ble_eq_true rfl) (pc' := 65) rfl ?_
  refine X.genH (fun h14 hh14 => ?_)
  rw [nh13]
  have nh14 : mN h14 = b + 7 := by rw [hh14, mN_aL, nh13]
  have th14 : ∀ a, mT h14 a = if a = b + 6 then some (10, 200) else mT h13 a := fun a => by rw [hh14, mT_aL, nh13]
  have ih14 : ∀ (a : Nat) (j : Int), mI h14 a j = if a = b + 6 then 0 else mI h13 a j := fun a j => by rw [hh14, mI_aL, nh13]
  have rh14 : ∀ (a : Nat) (j : Int), mR h14 a j = if a = b + 6 then none else mR h13 a j := fun a j => by rw [hh14, mR_aL, nh13]
  have lh14 : ∀ (a : Nat) (j : Int), mL h14 a j = if a = b + 6 then 0 else mL h13 a j := fun a j => by rw [hh14, mL_aL, nh13]
  have kh14 : NewS h h14 b 7 := by rw [hh14]; exact kh13.al
  refine X.putR fk_X0_27 xcl_0 ⟨_, rfl, Or.inr ⟨rfl, rfl⟩⟩ dX0_init_65 (by rw [th14, if_neg (by omega), th13, th12, if_neg (by omega), th11, th10, if_neg (by omega), th9, th8, if_neg (by omega), th7, th6, th5, th4, th3, if_neg (by omega), th2, th1, if_neg (by omega)]; exact hT) (pc' := 68) rfl ?_
  refine X.genH (fun h15 hh15 => ?_)
  have nh15 : mN h15 = _ := (show mN h15 = mN h14 by rw [hh15]; rfl).trans nh14
  have th15 : ∀ a, mT h15 a = mT h14 a := fun a => by rw [hh15]; rfl
  have ih15 : ∀ (a : Nat) (j : Int), mI h15 a j = mI h14 a j := fun a j => by rw [hh15]; rfl
  have rh15 : ∀ (a : Nat) (j : Int), mR h15 a j = if a = b ∧ j = 7 then some ((b + 6)) else mR h14 a j := fun a j => by rw [hh15]; rfl
  have lh15 : ∀ (a : Nat) (j : Int), mL h15 a j = mL h14 a j := fun a j => by rw [hh15]; rfl
  have kh15 : NewS h h15 b 7 := by rw [hh15]; exact kh14.wR ⟨by omega, by omega⟩
  refine X.aload_n (i := 0) rfl rfl dX0_init_68 (pc' := 69) rfl ?_
  refine X.bipush (by decide +kernel) dX0_init_69 (pc' := 71) rfl ?_
  refine X.sipush (by decide +kernel) dX0_init_71 (pc' := 74) rfl ?_
  refine X.mnew (K := 6) (N := 200) dX0_init_74 wd_49 wd_105 rfl rfl (by decide) (by decide) (Nat.le_of_ble_eq_true rfl) (Nat.le_of_ble_eq_true rfl) (pc' := 78) rfl ?_
  refine X.genH (fun h16 hh16 => ?_)
  rw [nh15]
  have nh16 : mN h16 = b + 14 := by rw [hh16, mN_aM, nh15]
  have th16 : ∀ a, mT h16 a = if a = b + 7 then some (13, 6) else if b + 7 < a ∧ a < b + 7 + 1 + 6 then some (10, 200) else mT h15 a := fun a => by rw [hh16, mT_aM, nh15]
  have ih16 : ∀ (a : Nat) (j : Int), mI h16 a j = if b + 7 ≤ a ∧ a < b + 7 + 1 + 6 then 0 else mI h15 a j := fun a j => by rw [hh16, mI_aM, nh15]
  have rh16 : ∀ (a : Nat) (j : Int), mR h16 a j = if a = b + 7 then (if 0 ≤ j ∧ j < 6 then some (b + 7 + 1 + j.toNat) else none) else if b + 7 < a ∧ a < b + 7 + 1 + 6 then none else mR h15 a j := fun a j => by rw [hh16, mR_aM, nh15]; rfl
  have lh16 : ∀ (a : Nat) (j : Int), mL h16 a j = if b + 7 ≤ a ∧ a < b + 7 + 1 + 6 then 0 else mL h15 a j := fun a j => by rw [hh16, mL_aM, nh15]
  have kh16 : NewS h h16 b 14 := by rw [hh16]; exact kh15.am
  refine X.putR fk_X0_32 xcl_0 ⟨_, rfl, Or.inr ⟨rfl, rfl⟩⟩ dX0_init_78 (by rw [th16, if_neg (by omega), if_neg (by omega), th15, th14, if_neg (by omega), th13, th12, if_neg (by omega), th11, th10, if_neg (by omega), th9, th8, if_neg (by omega), th7, th6, th5, th4, th3, if_neg (by omega), th2, th1, if_neg (by omega)]; exact hT) (pc' := 81) rfl ?_
  refine X.genH (fun h17 hh17 => ?_)
  have nh17 : mN h17 = _ := (show mN h17 = mN h16 by rw [hh17]; rfl).trans nh16
  have th17 : ∀ a, mT h17 a = mT h16 a := fun a => by rw [hh17]; rfl
  have ih17 : ∀ (a : Nat) (j : Int), mI h17 a j = mI h16 a j := fun a j => by rw [hh17]; rfl
  have rh17 : ∀ (a : Nat) (j : Int), mR h17 a j = if a = b ∧ j = 8 then some ((b + 7)) else mR h16 a j := fun a j => by rw [hh17]; rfl
  have lh17 : ∀ (a : Nat) (j : Int), mL h17 a j = mL h16 a j := fun a j => by rw [hh17]; rfl
  have kh17 : NewS h h17 b 14 := by rw [hh17]; exact kh16.wR ⟨by omega, by omega⟩
  refine X.aload_n (i := 0) rfl rfl dX0_init_81 (pc' := 82) rfl ?_
  refine X.bipush (by decide +kernel) dX0_init_82 (pc' := 84) rfl ?_
  refine X.sipush (by decide +kernel) dX0_init_84 (pc' := 87) rfl ?_
  refine X.mnew (K := 6) (N := 200) dX0_init_87 wd_49 wd_105 rfl rfl (by decide) (by decide) (Nat.le_of_ble_eq_true rfl) (Nat.le_of_ble_eq_true rfl) (pc' := 91) rfl ?_
  refine X.genH (fun h18 hh18 => ?_)
  rw [nh17]
  have nh18 : mN h18 = b + 21 := by rw [hh18, mN_aM, nh17]
  have th18 : ∀ a, mT h18 a = if a = b + 14 then some (13, 6) else if b + 14 < a ∧ a < b + 14 + 1 + 6 then some (10, 200) else mT h17 a := fun a => by rw [hh18, mT_aM, nh17]
  have ih18 : ∀ (a : Nat) (j : Int), mI h18 a j = if b + 14 ≤ a ∧ a < b + 14 + 1 + 6 then 0 else mI h17 a j := fun a j => by rw [hh18, mI_aM, nh17]
  have rh18 : ∀ (a : Nat) (j : Int), mR h18 a j = if a = b + 14 then (if 0 ≤ j ∧ j < 6 then some (b + 14 + 1 + j.toNat) else none) else if b + 14 < a ∧ a < b + 14 + 1 + 6 then none else mR h17 a j := fun a j => by rw [hh18, mR_aM, nh17]; rfl
  have lh18 : ∀ (a : Nat) (j : Int), mL h18 a j = if b + 14 ≤ a ∧ a < b + 14 + 1 + 6 then 0 else mL h17 a j := fun a j => by rw [hh18, mL_aM, nh17]
  have kh18 : NewS h h18 b 21 := by rw [hh18]; exact kh17.am
  refine X.putR fk_X0_35 xcl_0 ⟨_, rfl, Or.inr ⟨rfl, rfl⟩⟩ dX0_init_91 (by rw [th18, if_neg (by omega), if_neg (by omega), th17, th16, if_neg (by omega), if_neg (by omega), th15, th14, if_neg (by omega), th13, th12, if_neg (by omega), th11, th10, if_neg (by omega), th9, th8, if_neg (by omega), th7, th6, th5, th4, th3, if_neg (by omega), th2, th1, if_neg (by omega)]; exact hT) (pc' := 94) rfl ?_
  refine X.genH (fun h19 hh19 => ?_)
  have nh19 : mN h19 = _ := (show mN h19 = mN h18 by rw [hh19]; rfl).trans nh18
  have th19 : ∀ a, mT h19 a = mT h18 a := fun a => by rw [hh19]; rfl
  have ih19 : ∀ (a : Nat) (j : Int), mI h19 a j = mI h18 a j := fun a j => by rw [hh19]; rfl
  have rh19 : ∀ (a : Nat) (j : Int), mR h19 a j = if a = b ∧ j = 9 then some ((b + 14)) else mR h18 a j := fun a j => by rw [hh19]; rfl
  have lh19 : ∀ (a : Nat) (j : Int), mL h19 a j = mL h18 a j := fun a j => by rw [hh19]; rfl
  have kh19 : NewS h h19 b 21 := by rw [hh19]; exact kh18.wR ⟨by omega, by omega⟩
  refine X.aload_n (i := 0) rfl rfl dX0_init_94 (pc' := 95) rfl ?_
  refine X.bipush (by decide +kernel) dX0_init_95 (pc' := 97) rfl ?_
  refine X.sipush (by decide +kernel) dX0_init_97 (pc' := 100) rfl ?_
  refine X.mnew (K := 6) (N := 400) dX0_init_100 wd_49 wd_105 rfl rfl (by decide) (by decide) (Nat.le_of_ble_eq_true rfl) (Nat.le_of_ble_eq_true rfl) (pc' := 104) rfl ?_
  refine X.genH (fun h20 hh20 => ?_)
  rw [nh19]
  have nh20 : mN h20 = b + 28 := by rw [hh20, mN_aM, nh19]
  have th20 : ∀ a, mT h20 a = if a = b + 21 then some (13, 6) else if b + 21 < a ∧ a < b + 21 + 1 + 6 then some (10, 400) else mT h19 a := fun a => by rw [hh20, mT_aM, nh19]
  have ih20 : ∀ (a : Nat) (j : Int), mI h20 a j = if b + 21 ≤ a ∧ a < b + 21 + 1 + 6 then 0 else mI h19 a j := fun a j => by rw [hh20, mI_aM, nh19]
  have rh20 : ∀ (a : Nat) (j : Int), mR h20 a j = if a = b + 21 then (if 0 ≤ j ∧ j < 6 then some (b + 21 + 1 + j.toNat) else none) else if b + 21 < a ∧ a < b + 21 + 1 + 6 then none else mR h19 a j := fun a j => by rw [hh20, mR_aM, nh19]; rfl
  have lh20 : ∀ (a : Nat) (j : Int), mL h20 a j = if b + 21 ≤ a ∧ a < b + 21 + 1 + 6 then 0 else mL h19 a j := fun a j => by rw [hh20, mL_aM, nh19]
  have kh20 : NewS h h20 b 28 := by rw [hh20]; exact kh19.am
  refine X.putR fk_X0_38 xcl_0 ⟨_, rfl, Or.inr ⟨rfl, rfl⟩⟩ dX0_init_104 (by rw [th20, if_neg (by omega), if_neg (by omega), th19, th18, if_neg (by omega), if_neg (by omega), th17, th16, if_neg (by omega), if_neg (by omega), th15, th14, if_neg (by omega), th13, th12, if_neg (by omega), th11, th10, if_neg (by omega), th9, th8, if_neg (by omega), th7, th6, th5, th4, th3, if_neg (by omega), th2, th1, if_neg (by omega)]; exact hT) (pc' := 107) rfl ?_
  refine X.genH (fun h21 hh21 => ?_)
  have nh21 : mN h21 = _ := (show mN h21 = mN h20 by rw [hh21]; rfl).trans nh20
  have th21 : ∀ a, mT h21 a = mT h20 a := fun a => by rw [hh21]; rfl
  have ih21 : ∀ (a : Nat) (j : Int), mI h21 a j = mI h20 a j := fun a j => by rw [hh21]; rfl
  have rh21 : ∀ (a : Nat) (j : Int), mR h21 a j = if a = b ∧ j = 10 then some ((b + 21)) else mR h20 a j := fun a j => by rw [hh21]; rfl
  have lh21 : ∀ (a : Nat) (j : Int), mL h21 a j = mL h20 a j := fun a j => by rw [hh21]; rfl
  have kh21 : NewS h h21 b 28 := by rw [hh21]; exact kh20.wR ⟨by omega, by omega⟩
  refine X.aload_n (i := 0) rfl rfl dX0_init_107 (pc' := 108) rfl ?_
  refine X.bipush (by decide +kernel) dX0_init_108 (pc' := 110) rfl ?_
  refine X.newa (N := 60) (t := 10) dX0_init_110 (Or.inl ⟨rfl, rfl⟩) wd_105 rfl (by decide) (Nat.le_of_ble_eq_true rfl) (Nat.le_of_ble_eq_true rfl) (pc' := 112) rfl ?_
  refine X.genH (fun h22 hh22 => ?_)
  rw [nh21]
  have nh22 : mN h22 = b + 29 := by rw [hh22, mN_aL, nh21]
  have th22 : ∀ a, mT h22 a = if a = b + 28 then some (10, 60) else mT h21 a := fun a => by rw [hh22, mT_aL, nh21]
  have ih22 : ∀ (a : Nat) (j : Int), mI h22 a j = if a = b + 28 then 0 else mI h21 a j := fun a j => by rw [hh22, mI_aL, nh21]
  have rh22 : ∀ (a : Nat) (j : Int), mR h22 a j = if a = b + 28 then none else mR h21 a j := fun a j => by rw [hh22, mR_aL, nh21]
  have lh22 : ∀ (a : Nat) (j : Int), mL h22 a j = if a = b + 28 then 0 else mL h21 a j := fun a j => by rw [hh22, mL_aL, nh21]
  have kh22 : NewS h h22 b 29 := by rw [hh22]; exact kh21.al
  refine X.putR fk_X0_41 xcl_0 ⟨_, rfl, Or.inr ⟨rfl, rfl⟩⟩ dX0_init_112 (by rw [th22, if_neg (by omega), th21, th20, if_neg (by omega), if_neg (by omega), th19, th18, if_neg (by omega), if_neg (by omega), th17, th16, if_neg (by omega), if_neg (by omega), th15, th14, if_neg (by omega), th13, th12, if_neg (by omega), th11, th10, if_neg (by omega), th9, th8, if_neg (by omega), th7, th6, th5, th4, th3, if_neg (by omega), th2, th1, if_neg (by omega)]; exact hT) (pc' := 115) rfl ?_
  refine X.genH (fun h23 hh23 => ?_)
  have nh23 : mN h23 = _ := (show mN h23 = mN h22 by rw [hh23]; rfl).trans nh22
  have th23 : ∀ a, mT h23 a = mT h22 a := fun a => by rw [hh23]; rfl
  have ih23 : ∀ (a : Nat) (j : Int), mI h23 a j = mI h22 a j := fun a j => by rw [hh23]; rfl
  have rh23 : ∀ (a : Nat) (j : Int), mR h23 a j = if a = b ∧ j = 11 then some ((b + 28)) else mR h22 a j := fun a j => by rw [hh23]; rfl
  have lh23 : ∀ (a : Nat) (j : Int), mL h23 a j = mL h22 a j := fun a j => by rw [hh23]; rfl
  have kh23 : NewS h h23 b 29 := by rw [hh23]; exact kh22.wR ⟨by omega, by omega⟩
  refine X.vret dX0_init_115 rfl (Nat.le_of_ble_eq_true rfl) (Nat.le_of_ble_eq_true rfl) ?_
  subst hPR
  have hch : ChS h23 b := ⟨by rw [th23, th22, if_neg (by omega), th21, th20, if_neg (by omega), if_neg (by omega), th19, th18, if_neg (by omega), if_neg (by omega), th17, th16, if_neg (by omega), if_neg (by omega), th15, th14, if_neg (by omega), th13, th12, if_neg (by omega), th11, th10, if_neg (by omega), th9, th8, if_neg (by omega), th7, th6, th5, th4, th3, if_neg (by omega), th2, th1, if_neg (by omega)]; exact hT, ⟨by rw [rh23, if_neg (by omega), rh22, if_neg (by omega), rh21, if_neg (by omega), rh20, if_neg (by omega), if_neg (by omega), rh19, if_neg (by omega), rh18, if_neg (by omega), if_neg (by omega), rh17, if_neg (by omega), rh16, if_neg (by omega), if_neg (by omega), rh15, if_neg (by omega), rh14, if_neg (by omega), rh13, if_neg (by omega), rh12, if_neg (by omega), rh11, if_neg (by omega), rh10, if_neg (by omega), rh9, if_neg (by omega), rh8, if_neg (by omega), rh7, if_neg (by omega), rh6, rh5, rh4, rh3, if_neg (by omega), rh2, if_pos ⟨rfl, rfl⟩], by rw [th23, th22, if_neg (by omega), th21, th20, if_neg (by omega), if_neg (by omega), th19, th18, if_neg (by omega), if_neg (by omega), th17, th16, if_neg (by omega), if_neg (by omega), th15, th14, if_neg (by omega), th13, th12, if_neg (by omega), th11, th10, if_neg (by omega), th9, th8, if_neg (by omega), th7, th6, th5, th4, th3, if_neg (by omega), th2, th1, if_pos rfl]⟩, ⟨by rw [rh23, if_neg (by omega), rh22, if_neg (by omega), rh21, if_neg (by omega), rh20, if_neg (by omega), if_neg (by omega), rh19, if_neg (by omega), rh18, if_neg (by omega), if_neg (by omega), rh17, if_neg (by omega), rh16, if_neg (by omega), if_neg (by omega), rh15, if_neg (by omega), rh14, if_neg (by omega), rh13, if_neg (by omega), rh12, if_neg (by omega), rh11, if_neg (by omega), rh10, if_neg (by omega), rh9, if_neg (by omega), rh8, if_neg (by omega), rh7, if_pos ⟨rfl, rfl⟩], by rw [th23, th22, if_neg (by omega), th21, th20, if_neg (by omega), if_neg (by omega), th19, th18, if_neg (by omega), if_neg (by omega), th17, th16, if_neg (by omega), if_neg (by omega), th15, th14, if_neg (by omega), th13, th12, if_neg (by omega), th11, th10, if_neg (by omega), th9, th8, if_neg (by omega), th7, th6, th5, th4, th3, if_pos rfl]⟩, ⟨by rw [rh23, if_neg (by omega), rh22, if_neg (by omega), rh21, if_neg (by omega), rh20, if_neg (by omega), if_neg (by omega), rh19, if_neg (by omega), rh18, if_neg (by omega), if_neg (by omega), rh17, if_neg (by omega), rh16, if_neg (by omega), if_neg (by omega), rh15, if_neg (by omega), rh14, if_neg (by omega), rh13, if_neg (by omega), rh12, if_neg (by omega), rh11, if_neg (by omega), rh10, if_neg (by omega), rh9, if_pos ⟨rfl, rfl⟩], by rw [th23, th22, if_neg (by omega), th21, th20, if_neg (by omega), if_neg (by omega), th19, th18, if_neg (by omega), if_neg (by omega), th17, th16, if_neg (by omega), if_neg (by omega), th15, th14, if_neg (by omega), th13, th12, if_neg (by omega), th11, th10, if_neg (by omega), th9, th8, if_pos rfl]⟩, ⟨by rw [rh23, if_neg (by omega), rh22, if_neg (by omega), rh21, if_neg (by omega), rh20, if_neg (by omega), if_neg (by omega), rh19, if_neg (by omega), rh18, if_neg (by omega), if_neg (by omega), rh17, if_neg (by omega), rh16, if_neg (by omega), if_neg (by omega), rh15, if_neg (by omega), rh14, if_neg (by omega), rh13, if_neg (by omega), rh12, if_neg (by omega), rh11, if_pos ⟨rfl, rfl⟩], by rw [th23, th22, if_neg (by omega), th21, th20, if_neg (by omega), if_neg (by omega), th19, th18, if_neg (by omega), if_neg (by omega), th17, th16, if_neg (by omega), if_neg (by omega), th15, th14, if_neg (by omega), th13, th12, if_neg (by omega), th11, th10, if_pos rfl]⟩, ⟨by rw [rh23, if_neg (by omega), rh22, if_neg (by omega), rh21, if_neg (by omega), rh20, if_neg (by omega), if_neg (by omega), rh19, if_neg (by omega), rh18, if_neg (by omega), if_neg (by omega), rh17, if_neg (by omega), rh16, if_neg (by omega), if_neg (by omega), rh15, if_neg (by omega), rh14, if_neg (by omega), rh13, if_pos ⟨rfl, rfl⟩], by rw [th23, th22, if_neg (by omega), th21, th20, if_neg (by omega), if_neg (by omega), th19, th18, if_neg (by omega), if_neg (by omega), th17, th16, if_neg (by omega), if_neg (by omega), th15, th14, if_neg (by omega), th13, th12, if_pos rfl]⟩, ⟨by rw [rh23, if_neg (by omega), rh22, if_neg (by omega), rh21, if_neg (by omega), rh20, if_neg (by omega), if_neg (by omega), rh19, if_neg (by omega), rh18, if_neg (by omega), if_neg (by omega), rh17, if_neg (by omega), rh16, if_neg (by omega), if_neg (by omega), rh15, if_pos ⟨rfl, rfl⟩], by rw [th23, th22, if_neg (by omega), th21, th20, if_neg (by omega), if_neg (by omega), th19, th18, if_neg (by omega), if_neg (by omega), th17, th16, if_neg (by omega), if_neg (by omega), th15, th14, if_pos rfl]⟩, ⟨by rw [rh23, if_neg (by omega), rh22, if_neg (by omega), rh21, if_neg (by omega), rh20, if_neg (by omega), if_neg (by omega), rh19, if_neg (by omega), rh18, if_neg (by omega), if_neg (by omega), rh17, if_pos ⟨rfl, rfl⟩], by rw [th23, th22, if_neg (by omega), th21, th20, if_neg (by omega), if_neg (by omega), th19, th18, if_neg (by omega), if_neg (by omega), th17, th16, if_pos rfl]⟩, ⟨by rw [rh23, if_neg (by omega), rh22, if_neg (by omega), rh21, if_neg (by omega), rh20, if_neg (by omega), if_neg (by omega), rh19, if_pos ⟨rfl, rfl⟩], by rw [th23, th22, if_neg (by omega), th21, th20, if_neg (by omega), if_neg (by omega), th19, th18, if_pos rfl]⟩, ⟨by rw [rh23, if_neg (by omega), rh22, if_neg (by omega), rh21, if_pos ⟨rfl, rfl⟩], by rw [th23, th22, if_neg (by omega), th21, th20, if_pos rfl]⟩, ⟨by rw [rh23, if_pos ⟨rfl, rfl⟩], by rw [th23, th22, if_pos rfl]⟩, fun s z1 z2 => ⟨by rw [rh23, if_neg (by omega), rh22, if_neg (by omega), rh21, if_neg (by omega), rh20, if_neg (by omega), if_neg (by omega), rh19, if_neg (by omega), rh18, if_neg (by omega), if_neg (by omega), rh17, if_neg (by omega), rh16, if_pos rfl, if_pos (by omega)], by rw [th23, th22, if_neg (by omega), th21, th20, if_neg (by omega), if_neg (by omega), th19, th18, if_neg (by omega), if_neg (by omega), th17, th16, if_neg (by omega), if_pos (by omega)]⟩, fun s z1 z2 => ⟨by rw [rh23, if_neg (by omega), rh22, if_neg (by omega), rh21, if_neg (by omega), rh20, if_neg (by omega), if_neg (by omega), rh19, if_neg (by omega), rh18, if_pos rfl, if_pos (by omega)], by rw [th23, th22, if_neg (by omega), th21, th20, if_neg (by omega), if_neg (by omega), th19, th18, if_neg (by omega), if_pos (by omega)]⟩, fun s z1 z2 => ⟨by rw [rh23, if_neg (by omega), rh22, if_neg (by omega), rh21, if_neg (by omega), rh20, if_pos rfl, if_pos (by omega)], by rw [th23, th22, if_neg (by omega), th21, th20, if_neg (by omega), if_pos (by omega)]⟩⟩
  have hst : ∀ j, 0 ≤ j → j < 3 → mI h23 (b + 2) j = aSt aNew j := fun j z1 z2 => by
      rcases (show j = 0 ∨ j = 1 ∨ j = 2 by omega) with rfl | rfl | rfl
      · rw [ih23, ih22, if_neg (by omega), ih21, ih20, if_neg (by omega), ih19, ih18, if_neg (by omega), ih17, ih16, if_neg (by omega), ih15, ih14, if_neg (by omega), ih13, ih12, if_neg (by omega), ih11, ih10, if_neg (by omega), ih9, ih8, if_neg (by omega), ih7, ih6, if_neg (by omega), ih5, if_neg (by omega), ih4, if_pos ⟨rfl, rfl⟩]; rfl
      · rw [ih23, ih22, if_neg (by omega), ih21, ih20, if_neg (by omega), ih19, ih18, if_neg (by omega), ih17, ih16, if_neg (by omega), ih15, ih14, if_neg (by omega), ih13, ih12, if_neg (by omega), ih11, ih10, if_neg (by omega), ih9, ih8, if_neg (by omega), ih7, ih6, if_neg (by omega), ih5, if_pos ⟨rfl, rfl⟩]; rfl
      · rw [ih23, ih22, if_neg (by omega), ih21, ih20, if_neg (by omega), ih19, ih18, if_neg (by omega), ih17, ih16, if_neg (by omega), ih15, ih14, if_neg (by omega), ih13, ih12, if_neg (by omega), ih11, ih10, if_neg (by omega), ih9, ih8, if_neg (by omega), ih7, ih6, if_pos ⟨rfl, rfl⟩]; rfl
  exact ⟨rfl, ⟨⟨hch, aNew_ok, by rw [ih23, ih22, if_neg (by omega), ih21, ih20, if_neg (by omega), ih19, ih18, if_neg (by omega), ih17, ih16, if_neg (by omega), ih15, ih14, if_neg (by omega), ih13, ih12, if_neg (by omega), ih11, ih10, if_neg (by omega), ih9, ih8, if_neg (by omega), ih7, ih6, if_neg (by omega), ih5, if_neg (by omega), ih4, if_neg (by omega), ih3, if_neg (by omega), ih2, ih1, if_neg (by omega)]; exact hz0, by rw [ih23, ih22, if_neg (by omega), ih21, ih20, if_neg (by omega), ih19, ih18, if_neg (by omega), ih17, ih16, if_neg (by omega), ih15, ih14, if_neg (by omega), ih13, ih12, if_neg (by omega), ih11, ih10, if_neg (by omega), ih9, ih8, if_neg (by omega), ih7, ih6, if_neg (by omega), ih5, if_neg (by omega), ih4, if_neg (by omega), ih3, if_neg (by omega), ih2, ih1, if_neg (by omega)]; exact hz1, fun j z1 z2 => by rw [ih23, ih22, if_neg (by omega), ih21, ih20, if_neg (by omega), ih19, ih18, if_neg (by omega), ih17, ih16, if_neg (by omega), ih15, ih14, if_neg (by omega), ih13, ih12, if_neg (by omega), ih11, ih10, if_neg (by omega), ih9, ih8, if_neg (by omega), ih7, ih6, if_neg (by omega), ih5, if_neg (by omega), ih4, if_neg (by omega), ih3, if_neg (by omega), ih2, ih1, if_pos rfl]; rfl, hst, fun n z1 z2 => absurd z2 (by show ¬ n < 0; omega), fun n z1 z2 => absurd z2 (by show ¬ n < 0; omega), fun n z1 z2 => absurd z2 (by show ¬ n < 0; omega), fun n z1 z2 => absurd z2 (by show ¬ n < 0; omega), fun q n z1 z2 z3 z4 => absurd z4 (by show ¬ n < 0; omega)⟩, fun q n z1 z2 z3 z4 => absurd z4 (by show ¬ n < 0; omega), fun q n z1 z2 z3 z4 => absurd z4 (by show ¬ n < 0; omega), fun p z1 z2 => by rw [ih23, ih22, if_pos rfl]; rfl⟩, kh23⟩
set_option maxHeartbeats 4000000 in
set_option maxRecDepth 100000 in
theorem k_X1_init {Ω : xO} {h : xM} {b : Nat} (hT : mT h b = some (1, 1)) (hN : mN h = b + 1) : xCt Ω yX1_init cX1_init 1 none rm_X1_init [rf b] h (fun q h' => q = none ∧ mT h' b = some (1, 1) ∧ mL h' b 0 = 3853 ∧ NewS h h' b 1) xNo := by
  refine xCt_of (ini := true) (by decide +kernel) (Nat.le_of_ble_eq_true rfl) (fun q => rfl) ?_
  generalize hPR : (fun q h' => q = none ∧ mT h' b = some (1, 1) ∧ mL h' b 0 = 3853 ∧ NewS h h' b 1 : Option xV → xM → Prop) = PR
  have K0 : X Ω RX1 cX1_init 1 none true rm_X1_init PR xNo 0 0 0 [some (rf b)] [] h := ?_
  exact K0
  refine X.aload_n (i := 0) rfl rfl dX1_init_0 (pc' := 1) rfl ?_
  refine X.objInit dX1_init_1 wd_216 wd_41 wd_42 ⟨Nat.le_of_ble_eq_true rfl, Nat.le_of_ble_eq_true rfl⟩ (pc' := 4) rfl ?_
  refine X.aload_n (i := 0) rfl rfl dX1_init_4 (pc' := 5) rfl ?_
  refine X.ldc2 (v := 3853) wd_217 dX1_init_5 (pc' := 8) rfl ?_
  refine X.putL fk_X1_11 xcl_1 ⟨_, rfl, Or.inl rfl⟩ dX1_init_8 hT (pc' := 11) rfl ?_
  refine X.genH (fun h1 hh1 => ?_)
  have nh1 : mN h1 = _ := (show mN h1 = mN h by rw [hh1]; rfl).trans hN
  have th1 : ∀ a, mT h1 a = mT h a := fun a => by rw [hh1]; rfl
  have ih1 : ∀ (a : Nat) (j : Int), mI h1 a j = mI h a j := fun a j => by rw [hh1]; rfl
  have rh1 : ∀ (a : Nat) (j : Int), mR h1 a j = mR h a j := fun a j => by rw [hh1]; rfl
  have lh1 : ∀ (a : Nat) (j : Int), mL h1 a j = if a = b ∧ j = 0 then 3853 else mL h a j := fun a j => by rw [hh1]; rfl
  have kh1 : NewS h h1 b 1 := by rw [hh1]; exact (NewS.rf (b := b) (n := 1) hN).wL ⟨by omega, by omega⟩
  refine X.vret dX1_init_11 rfl (Nat.le_of_ble_eq_true rfl) (Nat.le_of_ble_eq_true rfl) ?_
  subst hPR
  exact ⟨rfl, by rw [th1]; exact hT, by rw [lh1, if_pos ⟨rfl, rfl⟩], kh1⟩
set_option maxHeartbeats 4000000 in
set_option maxRecDepth 100000 in
theorem k_X2_init {Ω : xO} {h : xM} {b : Nat} (hT : mT h b = some (2, 2)) (hN : mN h = b + 1) : xCt Ω yX2_init cX2_init 1 none rm_X2_init [rf b] h (fun q h' => q = none ∧ HiS h' b ∧ mI h' b 0 = mI h b 0 ∧ (∀ j, mR h' (b + 1) j = none) ∧ NewS h h' b 2) xNo := by
  refine xCt_of (ini := true) (by decide +kernel) (Nat.le_of_ble_eq_true rfl) (fun q => rfl) ?_
  generalize hPR : (fun q h' => q = none ∧ HiS h' b ∧ mI h' b 0 = mI h b 0 ∧ (∀ j, mR h' (b + 1) j = none) ∧ NewS h h' b 2 : Option xV → xM → Prop) = PR
  have K0 : X Ω RX2 cX2_init 1 none true rm_X2_init PR xNo 0 0 0 [some (rf b)] [] h := ?_
  exact K0
  refine X.aload_n (i := 0) rfl rfl dX2_init_0 (pc' := 1) rfl ?_
  refine X.objInit dX2_init_1 wd_121 wd_41 wd_42 ⟨Nat.le_of_ble_eq_true rfl, Nat.le_of_ble_eq_true rfl⟩ (pc' := 4) rfl ?_
  refine X.aload_n (i := 0) rfl rfl dX2_init_4 (pc' := 5) rfl ?_
  refine X.bipush (by decide +kernel) dX2_init_5 (pc' := 7) rfl ?_
  refine X.anew (N := 6) dX2_init_7 wd_122 rfl (by decide) (Nat.le_of_ble_eq_true rfl) (Nat.le_of_ble_eq_true rfl) (pc' := 10) rfl ?_
  refine X.genH (fun h1 hh1 => ?_)
  rw [hN]
  have nh1 : mN h1 = b + 2 := by rw [hh1, mN_aL, hN]
  have th1 : ∀ a, mT h1 a = if a = b + 1 then some (14, 6) else mT h a := fun a => by rw [hh1, mT_aL, hN]
  have ih1 : ∀ (a : Nat) (j : Int), mI h1 a j = if a = b + 1 then 0 else mI h a j := fun a j => by rw [hh1, mI_aL, hN]
  have rh1 : ∀ (a : Nat) (j : Int), mR h1 a j = if a = b + 1 then none else mR h a j := fun a j => by rw [hh1, mR_aL, hN]
  have lh1 : ∀ (a : Nat) (j : Int), mL h1 a j = if a = b + 1 then 0 else mL h a j := fun a j => by rw [hh1, mL_aL, hN]
  have kh1 : NewS h h1 b 2 := by rw [hh1]; exact (NewS.rf (b := b) (n := 1) hN).al
  refine X.putR fk_X2_11 xcl_2 ⟨_, rfl, Or.inr ⟨rfl, rfl⟩⟩ dX2_init_10 (by rw [th1, if_neg (by omega)]; exact hT) (pc' := 13) rfl ?_
  refine X.genH (fun h2 hh2 => ?_)
  have nh2 : mN h2 = _ := (show mN h2 = mN h1 by rw [hh2]; rfl).trans nh1
  have th2 : ∀ a, mT h2 a = mT h1 a := fun a => by rw [hh2]; rfl
  have ih2 : ∀ (a : Nat) (j : Int), mI h2 a j = mI h1 a j := fun a j => by rw [hh2]; rfl
  have rh2 : ∀ (a : Nat) (j : Int), mR h2 a j = if a = b ∧ j = 1 then some ((b + 1)) else mR h1 a j := fun a j => by rw [hh2]; rfl
  have lh2 : ∀ (a : Nat) (j : Int), mL h2 a j = mL h1 a j := fun a j => by rw [hh2]; rfl
  have kh2 : NewS h h2 b 2 := by rw [hh2]; exact kh1.wR ⟨by omega, by omega⟩
  refine X.vret dX2_init_13 rfl (Nat.le_of_ble_eq_true rfl) (Nat.le_of_ble_eq_true rfl) ?_
  subst hPR
  exact ⟨rfl, ⟨by rw [th2, th1, if_neg (by omega)]; exact hT, by rw [rh2, if_pos ⟨rfl, rfl⟩], by rw [th2, th1, if_pos rfl]⟩, by rw [ih2, ih1, if_neg (by omega)], fun j => by rw [rh2, if_neg (by omega), rh1, if_pos rfl], kh2⟩
set_option maxHeartbeats 4000000 in
set_option maxRecDepth 100000 in
theorem k_X3_init {Ω : xO} {h : xM} {b c : Nat} (hT : mT h b = some (3, 1)) (hN : mN h = b + 1) : xCt Ω yX3_init cX3_init 2 none rm_X3_init [rf b, rf c] h (fun q h' => q = none ∧ RpS h' b c ∧ NewS h h' b 1) xNo := by
  refine xCt_of (ini := true) (by decide +kernel) (Nat.le_of_ble_eq_true rfl) (fun q => rfl) ?_
  generalize hPR : (fun q h' => q = none ∧ RpS h' b c ∧ NewS h h' b 1 : Option xV → xM → Prop) = PR
  have K0 : X Ω RX3 cX3_init 2 none true rm_X3_init PR xNo 0 0 0 [some (rf b), some (rf c)] [] h := ?_
  exact K0
  refine X.aload_n (i := 0) rfl rfl dX3_init_0 (pc' := 1) rfl ?_
  refine X.objInit dX3_init_1 wd_111 wd_41 wd_42 ⟨Nat.le_of_ble_eq_true rfl, Nat.le_of_ble_eq_true rfl⟩ (pc' := 4) rfl ?_
  refine X.aload_n (i := 0) rfl rfl dX3_init_4 (pc' := 5) rfl ?_
  refine X.aload_n (i := 1) rfl rfl dX3_init_5 (pc' := 6) rfl ?_
  refine X.putR fk_X3_9 xcl_3 ⟨_, rfl, Or.inr ⟨rfl, rfl⟩⟩ dX3_init_6 hT (pc' := 9) rfl ?_
  refine X.genH (fun h1 hh1 => ?_)
  have nh1 : mN h1 = _ := (show mN h1 = mN h by rw [hh1]; rfl).trans hN
  have th1 : ∀ a, mT h1 a = mT h a := fun a => by rw [hh1]; rfl
  have ih1 : ∀ (a : Nat) (j : Int), mI h1 a j = mI h a j := fun a j => by rw [hh1]; rfl
  have rh1 : ∀ (a : Nat) (j : Int), mR h1 a j = if a = b ∧ j = 0 then some c else mR h a j := fun a j => by rw [hh1]; rfl
  have lh1 : ∀ (a : Nat) (j : Int), mL h1 a j = mL h a j := fun a j => by rw [hh1]; rfl
  have kh1 : NewS h h1 b 1 := by rw [hh1]; exact (NewS.rf (b := b) (n := 1) hN).wR ⟨by omega, by omega⟩
  refine X.vret dX3_init_9 rfl (Nat.le_of_ble_eq_true rfl) (Nat.le_of_ble_eq_true rfl) ?_
  subst hPR
  exact ⟨rfl, ⟨by rw [th1]; exact hT, by rw [rh1, if_pos ⟨rfl, rfl⟩]⟩, kh1⟩
set_option maxHeartbeats 4000000 in
set_option maxRecDepth 100000 in
theorem k_X4_init {Ω : xO} {h : xM} {b : Nat} (hT : mT h b = some (4, 2)) (hN : mN h = b + 1) : xCt Ω yX4_init cX4_init 1 none rm_X4_init [rf b] h (fun q h' => q = none ∧ TxS h' b ∧ mI h' b 0 = mI h b 0 ∧ NewS h h' b 2) xNo := by
  refine xCt_of (ini := true) (by decide +kernel) (Nat.le_of_ble_eq_true rfl) (fun q => rfl) ?_
  generalize hPR : (fun q h' => q = none ∧ TxS h' b ∧ mI h' b 0 = mI h b 0 ∧ NewS h h' b 2 : Option xV → xM → Prop) = PR
  have K0 : X Ω RX4 cX4_init 1 none true rm_X4_init PR xNo 0 0 0 [some (rf b)] [] h := ?_
  exact K0
  refine X.aload_n (i := 0) rfl rfl dX4_init_0 (pc' := 1) rfl ?_
  refine X.objInit dX4_init_1 wd_137 wd_41 wd_42 ⟨Nat.le_of_ble_eq_true rfl, Nat.le_of_ble_eq_true rfl⟩ (pc' := 4) rfl ?_
  refine X.aload_n (i := 0) rfl rfl dX4_init_4 (pc' := 5) rfl ?_
  refine X.bipush (by decide +kernel) dX4_init_5 (pc' := 7) rfl ?_
  refine X.newa (N := 60) (t := 11) dX4_init_7 (Or.inr (Or.inl ⟨rfl, rfl⟩)) wd_146 rfl (by decide) (Nat.le_of_ble_eq_true rfl) (Nat.le_of_ble_eq_true rfl) (pc' := 9) rfl ?_
  refine X.genH (fun h1 hh1 => ?_)
  rw [hN]
  have nh1 : mN h1 = b + 2 := by rw [hh1, mN_aL, hN]
  have th1 : ∀ a, mT h1 a = if a = b + 1 then some (11, 60) else mT h a := fun a => by rw [hh1, mT_aL, hN]
  have ih1 : ∀ (a : Nat) (j : Int), mI h1 a j = if a = b + 1 then 0 else mI h a j := fun a j => by rw [hh1, mI_aL, hN]
  have rh1 : ∀ (a : Nat) (j : Int), mR h1 a j = if a = b + 1 then none else mR h a j := fun a j => by rw [hh1, mR_aL, hN]
  have lh1 : ∀ (a : Nat) (j : Int), mL h1 a j = if a = b + 1 then 0 else mL h a j := fun a j => by rw [hh1, mL_aL, hN]
  have kh1 : NewS h h1 b 2 := by rw [hh1]; exact (NewS.rf (b := b) (n := 1) hN).al
  refine X.putR fk_X4_9 xcl_4 ⟨_, rfl, Or.inr ⟨rfl, rfl⟩⟩ dX4_init_9 (by rw [th1, if_neg (by omega)]; exact hT) (pc' := 12) rfl ?_
  refine X.genH (fun h2 hh2 => ?_)
  have nh2 : mN h2 = _ := (show mN h2 = mN h1 by rw [hh2]; rfl).trans nh1
  have th2 : ∀ a, mT h2 a = mT h1 a := fun a => by rw [hh2]; rfl
  have ih2 : ∀ (a : Nat) (j : Int), mI h2 a j = mI h1 a j := fun a j => by rw [hh2]; rfl
  have rh2 : ∀ (a : Nat) (j : Int), mR h2 a j = if a = b ∧ j = 1 then some ((b + 1)) else mR h1 a j := fun a j => by rw [hh2]; rfl
  have lh2 : ∀ (a : Nat) (j : Int), mL h2 a j = mL h1 a j := fun a j => by rw [hh2]; rfl
  have kh2 : NewS h h2 b 2 := by rw [hh2]; exact kh1.wR ⟨by omega, by omega⟩
  refine X.vret dX4_init_12 rfl (Nat.le_of_ble_eq_true rfl) (Nat.le_of_ble_eq_true rfl) ?_
  subst hPR
  exact ⟨rfl, ⟨by rw [th2, th1, if_neg (by omega)]; exact hT, by rw [rh2, if_pos ⟨rfl, rfl⟩], by rw [th2, th1, if_pos rfl]⟩, by rw [ih2, ih1, if_neg (by omega)], kh2⟩
