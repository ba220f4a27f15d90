-- the words of the tables, by their places; what is static in each access and call
set_option maxRecDepth 100000 in
theorem xcw_0 : ∀ w ∈ u_ws RX0 TX0 12, w ∈ WG := by decide +kernel
theorem xck_0 : ∀ k, k < 12 → (xft 0 k = 0 → tyX0 k = .int) ∧ (xft 0 k = 1 → tyX0 k = .long) ∧ (xft 0 k = 2 → (∃ C, tyX0 k = .object C) ∨ ∃ t, tyX0 k = .array t) ∧ (xft 0 k = 3 → tyX0 k = .boolean) ∧ xft 0 k < 4 := fun k hk => match k, hk with
  | 0, _ => ⟨fun _ => rfl, fun h => absurd h (by decide), fun h => absurd h (by decide), fun h => absurd h (by decide), by decide⟩
  | 1, _ => ⟨fun _ => rfl, fun h => absurd h (by decide), fun h => absurd h (by decide), fun h => absurd h (by decide), by decide⟩
  | 2, _ => ⟨fun h => absurd h (by decide), fun h => absurd h (by decide), fun _ => Or.inr ⟨_, rfl⟩, fun h => absurd h (by decide), by decide⟩
  | 3, _ => ⟨fun h => absurd h (by decide), fun h => absurd h (by decide), fun _ => Or.inr ⟨_, rfl⟩, fun h => absurd h (by decide), by decide⟩
  | 4, _ => ⟨fun h => absurd h (by decide), fun h => absurd h (by decide), fun _ => Or.inr ⟨_, rfl⟩, fun h => absurd h (by decide), by decide⟩
  | 5, _ => ⟨fun h => absurd h (by decide), fun h => absurd h (by decide), fun _ => Or.inr ⟨_, rfl⟩, fun h => absurd h (by decide), by decide⟩
  | 6, _ => ⟨fun h => absurd h (by decide), fun h => absurd h (by decide), fun _ => Or.inr ⟨_, rfl⟩, fun h => absurd h (by decide), by decide⟩
  | 7, _ => ⟨fun h => absurd h (by decide), fun h => absurd h (by decide), fun _ => Or.inr ⟨_, rfl⟩, fun h => absurd h (by decide), by decide⟩
  | 8, _ => ⟨fun h => absurd h (by decide), fun h => absurd h (by decide), fun _ => Or.inr ⟨_, rfl⟩, fun h => absurd h (by decide), by decide⟩
  | 9, _ => ⟨fun h => absurd h (by decide), fun h => absurd h (by decide), fun _ => Or.inr ⟨_, rfl⟩, fun h => absurd h (by decide), by decide⟩
  | 10, _ => ⟨fun h => absurd h (by decide), fun h => absurd h (by decide), fun _ => Or.inr ⟨_, rfl⟩, fun h => absurd h (by decide), by decide⟩
  | 11, _ => ⟨fun h => absurd h (by decide), fun h => absurd h (by decide), fun _ => Or.inr ⟨_, rfl⟩, fun h => absurd h (by decide), by decide⟩
  | k + 12, hk => absurd hk (by omega)
theorem xcl_0 : xCls 0 := by
  intro q hq
  cases hq
  exact ⟨xcw_0, nmX0, tyX0, tyX0_ok, xck_0⟩
set_option maxRecDepth 100000 in
theorem xcw_1 : ∀ w ∈ u_ws RX1 TX1 1, w ∈ WG := by decide +kernel
theorem xck_1 : ∀ k, k < 1 → (xft 1 k = 0 → tyX1 k = .int) ∧ (xft 1 k = 1 → tyX1 k = .long) ∧ (xft 1 k = 2 → (∃ C, tyX1 k = .object C) ∨ ∃ t, tyX1 k = .array t) ∧ (xft 1 k = 3 → tyX1 k = .boolean) ∧ xft 1 k < 4 := fun k hk => match k, hk with
  | 0, _ => ⟨fun h => absurd h (by decide), fun _ => rfl, fun h => absurd h (by decide), fun h => absurd h (by decide), by decide⟩
  | k + 1, hk => absurd hk (by omega)
theorem xcl_1 : xCls 1 := by
  intro q hq
  cases hq
  exact ⟨xcw_1, nmX1, tyX1, tyX1_ok, xck_1⟩
set_option maxRecDepth 100000 in
theorem xcw_2 : ∀ w ∈ u_ws RX2 TX2 2, w ∈ WG := by decide +kernel
theorem xck_2 : ∀ k, k < 2 → (xft 2 k = 0 → tyX2 k = .int) ∧ (xft 2 k = 1 → tyX2 k = .long) ∧ (xft 2 k = 2 → (∃ C, tyX2 k = .object C) ∨ ∃ t, tyX2 k = .array t) ∧ (xft 2 k = 3 → tyX2 k = .boolean) ∧ xft 2 k < 4 := fun k hk => match k, hk with
  | 0, _ => ⟨fun _ => rfl, fun h => absurd h (by decide), fun h => absurd h (by decide), fun h => absurd h (by decide), by decide⟩
  | 1, _ => ⟨fun h => absurd h (by decide), fun h => absurd h (by decide), fun _ => Or.inr ⟨_, rfl⟩, fun h => absurd h (by decide), by decide⟩
  | k + 2, hk => absurd hk (by omega)
theorem xcl_2 : xCls 2 := by
  intro q hq
  cases hq
  exact ⟨xcw_2, nmX2, tyX2, tyX2_ok, xck_2⟩
set_option maxRecDepth 100000 in
theorem xcw_3 : ∀ w ∈ u_ws RX3 TX3 1, w ∈ WG := by decide +kernel
theorem xck_3 : ∀ k, k < 1 → (xft 3 k = 0 → tyX3 k = .int) ∧ (xft 3 k = 1 → tyX3 k = .long) ∧ (xft 3 k = 2 → (∃ C, tyX3 k = .object C) ∨ ∃ t, tyX3 k = .array t) ∧ (xft 3 k = 3 → tyX3 k = .boolean) ∧ xft 3 k < 4 := fun k hk => match k, hk with
  | 0, _ => ⟨fun h => absurd h (by decide), fun h => absurd h (by decide), fun _ => Or.inl ⟨_, rfl⟩, fun h => absurd h (by decide), by decide⟩
  | k + 1, hk => absurd hk (by omega)
theorem xcl_3 : xCls 3 := by
  intro q hq
  cases hq
  exact ⟨xcw_3, nmX3, tyX3, tyX3_ok, xck_3⟩
set_option maxRecDepth 100000 in
theorem xcw_4 : ∀ w ∈ u_ws RX4 TX4 2, w ∈ WG := by decide +kernel
theorem xck_4 : ∀ k, k < 2 → (xft 4 k = 0 → tyX4 k = .int) ∧ (xft 4 k = 1 → tyX4 k = .long) ∧ (xft 4 k = 2 → (∃ C, tyX4 k = .object C) ∨ ∃ t, tyX4 k = .array t) ∧ (xft 4 k = 3 → tyX4 k = .boolean) ∧ xft 4 k < 4 := fun k hk => match k, hk with
  | 0, _ => ⟨fun _ => rfl, fun h => absurd h (by decide), fun h => absurd h (by decide), fun h => absurd h (by decide), by decide⟩
  | 1, _ => ⟨fun h => absurd h (by decide), fun h => absurd h (by decide), fun _ => Or.inr ⟨_, rfl⟩, fun h => absurd h (by decide), by decide⟩
  | k + 2, hk => absurd hk (by omega)
theorem xcl_4 : xCls 4 := by
  intro q hq
  cases hq
  exact ⟨xcw_4, nmX4, tyX4, tyX4_ok, xck_4⟩
set_option maxRecDepth 100000 in
theorem xcw_5 : ∀ w ∈ u_ws RX5 TX5 5, w ∈ WG := by decide +kernel
theorem xck_5 : ∀ k, k < 5 → (xft 5 k = 0 → tyX5 k = .int) ∧ (xft 5 k = 1 → tyX5 k = .long) ∧ (xft 5 k = 2 → (∃ C, tyX5 k = .object C) ∨ ∃ t, tyX5 k = .array t) ∧ (xft 5 k = 3 → tyX5 k = .boolean) ∧ xft 5 k < 4 := fun k hk => match k, hk with
  | 0, _ => ⟨fun h => absurd h (by decide), fun h => absurd h (by decide), fun _ => Or.inl ⟨_, rfl⟩, fun h => absurd h (by decide), by decide⟩
  | 1, _ => ⟨fun h => absurd h (by decide), fun h => absurd h (by decide), fun _ => Or.inl ⟨_, rfl⟩, fun h => absurd h (by decide), by decide⟩
  | 2, _ => ⟨fun h => absurd h (by decide), fun h => absurd h (by decide), fun _ => Or.inl ⟨_, rfl⟩, fun h => absurd h (by decide), by decide⟩
  | 3, _ => ⟨fun h => absurd h (by decide), fun h => absurd h (by decide), fun _ => Or.inl ⟨_, rfl⟩, fun h => absurd h (by decide), by decide⟩
  | 4, _ => ⟨fun h => absurd h (by decide), fun h => absurd h (by decide), fun _ => Or.inl ⟨_, rfl⟩, fun h => absurd h (by decide), by decide⟩
  | k + 5, hk => absurd hk (by omega)
theorem xcl_5 : xCls 5 := by
  intro q hq
  cases hq
  exact ⟨xcw_5, nmX5, tyX5, tyX5_ok, xck_5⟩
set_option maxRecDepth 100000 in
theorem xcw_6 : ∀ w ∈ u_ws RX6 TX6 13, w ∈ WG := by decide +kernel
theorem xck_6 : ∀ k, k < 13 → (xft 6 k = 0 → tyX6 k = .int) ∧ (xft 6 k = 1 → tyX6 k = .long) ∧ (xft 6 k = 2 → (∃ C, tyX6 k = .object C) ∨ ∃ t, tyX6 k = .array t) ∧ (xft 6 k = 3 → tyX6 k = .boolean) ∧ xft 6 k < 4 := fun k hk => match k, hk with
  | 0, _ => ⟨fun h => absurd h (by decide), fun h => absurd h (by decide), fun _ => Or.inr ⟨_, rfl⟩, fun h => absurd h (by decide), by decide⟩
  | 1, _ => ⟨fun _ => rfl, fun h => absurd h (by decide), fun h => absurd h (by decide), fun h => absurd h (by decide), by decide⟩
  | 2, _ => ⟨fun h => absurd h (by decide), fun h => absurd h (by decide), fun h => absurd h (by decide), fun _ => rfl, by decide⟩
  | 3, _ => ⟨fun _ => rfl, fun h => absurd h (by decide), fun h => absurd h (by decide), fun h => absurd h (by decide), by decide⟩
  | 4, _ => ⟨fun h => absurd h (by decide), fun h => absurd h (by decide), fun _ => Or.inr ⟨_, rfl⟩, fun h => absurd h (by decide), by decide⟩
  | 5, _ => ⟨fun _ => rfl, fun h => absurd h (by decide), fun h => absurd h (by decide), fun h => absurd h (by decide), by decide⟩
  | 6, _ => ⟨fun _ => rfl, fun h => absurd h (by decide), fun h => absurd h (by decide), fun h => absurd h (by decide), by decide⟩
  | 7, _ => ⟨fun h => absurd h (by decide), fun h => absurd h (by decide), fun h => absurd h (by decide), fun _ => rfl, by decide⟩
  | 8, _ => ⟨fun _ => rfl, fun h => absurd h (by decide), fun h => absurd h (by decide), fun h => absurd h (by decide), by decide⟩
  | 9, _ => ⟨fun _ => rfl, fun h => absurd h (by decide), fun h => absurd h (by decide), fun h => absurd h (by decide), by decide⟩
  | 10, _ => ⟨fun _ => rfl, fun h => absurd h (by decide), fun h => absurd h (by decide), fun h => absurd h (by decide), by decide⟩
  | 11, _ => ⟨fun _ => rfl, fun h => absurd h (by decide), fun h => absurd h (by decide), fun h => absurd h (by decide), by decide⟩
  | 12, _ => ⟨fun h => absurd h (by decide), fun h => absurd h (by decide), fun _ => Or.inr ⟨_, rfl⟩, fun h => absurd h (by decide), by decide⟩
  | k + 13, hk => absurd hk (by omega)
theorem xcl_6 : xCls 6 := by
  intro q hq
  cases hq
  exact ⟨xcw_6, nmX6, tyX6, tyX6_ok, xck_6⟩
theorem wd_89 : (Jvm.Cond.methodLink "EchoLine$Chamber" (3 : Nat) ({ cls := "java/lang/Object", name := "<init>", desc := "()V" } : Jvm.MethodName)) ∈ WG := xWG (List.mem_of_getElem? (i := 89) (by decide +kernel)) (by decide +kernel)
theorem wd_82 : (Jvm.Cond.instanceMethod ({ cls := "java/lang/Object", name := "<init>", desc := "()V" } : Jvm.MethodName)) ∈ WG := xWG (List.mem_of_getElem? (i := 82) (by decide +kernel)) (by decide +kernel)
theorem wd_83 : (Jvm.Cond.code ({ cls := "java/lang/Object", name := "<init>", desc := "()V" } : Jvm.MethodName) object_method_1_code (1 : Nat) (Option.none : Option Jvm.ClassFile.FieldType)) ∈ WG := xWG (List.mem_of_getElem? (i := 83) (by decide +kernel)) (by decide +kernel)
theorem wd_146 : (Jvm.Cond.arrayClass Jvm.ClassFile.FieldType.int) ∈ WG := xWG (List.mem_of_getElem? (i := 146) (by decide +kernel)) (by decide +kernel)
theorem wd_98 : (Jvm.Cond.fieldLink "EchoLine$Chamber" (9 : Nat) "EchoLine$Chamber" "walls" "[I") ∈ WG := xWG (List.mem_of_getElem? (i := 98) (by decide +kernel)) (by decide +kernel)
theorem fk_X0_9 : xFld RX0 9 0 12 2 2 := ⟨by decide, RX0, TX0, rfl, by decide, rfl, wd_98⟩
theorem wd_101 : (Jvm.Cond.fieldLink "EchoLine$Chamber" (15 : Nat) "EchoLine$Chamber" "settings" "[I") ∈ WG := xWG (List.mem_of_getElem? (i := 101) (by decide +kernel)) (by decide +kernel)
theorem fk_X0_15 : xFld RX0 15 0 12 3 2 := ⟨by decide, RX0, TX0, rfl, by decide, rfl, wd_101⟩
theorem wd_104 : (Jvm.Cond.fieldLink "EchoLine$Chamber" (18 : Nat) "EchoLine$Chamber" "seatOf" "[I") ∈ WG := xWG (List.mem_of_getElem? (i := 104) (by decide +kernel)) (by decide +kernel)
theorem fk_X0_18 : xFld RX0 18 0 12 4 2 := ⟨by decide, RX0, TX0, rfl, by decide, rfl, wd_104⟩
theorem wd_106 : (Jvm.Cond.fieldLink "EchoLine$Chamber" (21 : Nat) "EchoLine$Chamber" "wordOf" "[I") ∈ WG := xWG (List.mem_of_getElem? (i := 106) (by decide +kernel)) (by decide +kernel)
theorem fk_X0_21 : xFld RX0 21 0 12 5 2 := ⟨by decide, RX0, TX0, rfl, by decide, rfl, wd_106⟩
theorem wd_108 : (Jvm.Cond.fieldLink "EchoLine$Chamber" (24 : Nat) "EchoLine$Chamber" "markOf" "[I") ∈ WG := xWG (List.mem_of_getElem? (i := 108) (by decide +kernel)) (by decide +kernel)
theorem fk_X0_24 : xFld RX0 24 0 12 6 2 := ⟨by decide, RX0, TX0, rfl, by decide, rfl, wd_108⟩
theorem wd_110 : (Jvm.Cond.fieldLink "EchoLine$Chamber" (27 : Nat) "EchoLine$Chamber" "saidAt" "[I") ∈ WG := xWG (List.mem_of_getElem? (i := 110) (by decide +kernel)) (by decide +kernel)
theorem fk_X0_27 : xFld RX0 27 0 12 7 2 := ⟨by decide, RX0, TX0, rfl, by decide, rfl, wd_110⟩
theorem wd_90 : (Jvm.Cond.classLink "EchoLine$Chamber" (30 : Nat) "[[I") ∈ WG := xWG (List.mem_of_getElem? (i := 90) (by decide +kernel)) (by decide +kernel)
theorem wd_112 : (Jvm.Cond.fieldLink "EchoLine$Chamber" (32 : Nat) "EchoLine$Chamber" "comesAt" "[[I") ∈ WG := xWG (List.mem_of_getElem? (i := 112) (by decide +kernel)) (by decide +kernel)
theorem fk_X0_32 : xFld RX0 32 0 12 8 2 := ⟨by decide, RX0, TX0, rfl, by decide, rfl, wd_112⟩
theorem wd_115 : (Jvm.Cond.fieldLink "EchoLine$Chamber" (35 : Nat) "EchoLine$Chamber" "firstHeardAt" "[[I") ∈ WG := xWG (List.mem_of_getElem? (i := 115) (by decide +kernel)) (by decide +kernel)
theorem fk_X0_35 : xFld RX0 35 0 12 9 2 := ⟨by decide, RX0, TX0, rfl, by decide, rfl, wd_115⟩
theorem wd_117 : (Jvm.Cond.fieldLink "EchoLine$Chamber" (38 : Nat) "EchoLine$Chamber" "heardNumber" "[[I") ∈ WG := xWG (List.mem_of_getElem? (i := 117) (by decide +kernel)) (by decide +kernel)
theorem fk_X0_38 : xFld RX0 38 0 12 10 2 := ⟨by decide, RX0, TX0, rfl, by decide, rfl, wd_117⟩
theorem wd_119 : (Jvm.Cond.fieldLink "EchoLine$Chamber" (41 : Nat) "EchoLine$Chamber" "messageWords" "[I") ∈ WG := xWG (List.mem_of_getElem? (i := 119) (by decide +kernel)) (by decide +kernel)
theorem fk_X0_41 : xFld RX0 41 0 12 11 2 := ⟨by decide, RX0, TX0, rfl, by decide, rfl, wd_119⟩
theorem wd_92 : (Jvm.Cond.fieldLink "EchoLine$Chamber" (44 : Nat) "EchoLine$Chamber" "beat" "I") ∈ WG := xWG (List.mem_of_getElem? (i := 92) (by decide +kernel)) (by decide +kernel)
theorem fk_X0_44 : xFld RX0 44 0 12 0 0 := ⟨by decide, RX0, TX0, rfl, by decide, rfl, wd_92⟩
theorem wd_95 : (Jvm.Cond.fieldLink "EchoLine$Chamber" (48 : Nat) "EchoLine$Chamber" "words" "I") ∈ WG := xWG (List.mem_of_getElem? (i := 95) (by decide +kernel)) (by decide +kernel)
theorem fk_X0_48 : xFld RX0 48 0 12 1 0 := ⟨by decide, RX0, TX0, rfl, by decide, rfl, wd_95⟩
theorem wd_243 : (Jvm.Cond.methodLink "EchoLine$Chamber" (51 : Nat) ({ cls := "java/lang/System", name := "arraycopy", desc := "(Ljava/lang/Object;ILjava/lang/Object;II)V" } : Jvm.MethodName)) ∈ WG := xWG (List.mem_of_getElem? (i := 243) (by decide +kernel)) (by decide +kernel)
theorem wd_245 : (Jvm.Cond.native ({ cls := "java/lang/System", name := "arraycopy", desc := "(Ljava/lang/Object;ILjava/lang/Object;II)V" } : Jvm.MethodName)) ∈ WG := xWG (List.mem_of_getElem? (i := 245) (by decide +kernel)) (by decide +kernel)
theorem wd_244 : (Jvm.Cond.static ({ cls := "java/lang/System", name := "arraycopy", desc := "(Ljava/lang/Object;ILjava/lang/Object;II)V" } : Jvm.MethodName)) ∈ WG := xWG (List.mem_of_getElem? (i := 244) (by decide +kernel)) (by decide +kernel)
theorem wd_72 : (Jvm.Cond.initialized "java/lang/System") ∈ WG := xWG (List.mem_of_getElem? (i := 72) (by decide +kernel)) (by decide +kernel)
theorem wd_543 : (Jvm.Cond.methodLink "EchoLine$Chamber" (57 : Nat) ({ cls := "EchoLine$Chamber", name := "delayBetween", desc := "(II)I" } : Jvm.MethodName)) ∈ WG := xWG (List.mem_of_getElem? (i := 543) (by decide +kernel)) (by decide +kernel)
theorem wd_255 : (Jvm.Cond.instanceMethod ({ cls := "EchoLine$Chamber", name := "delayBetween", desc := "(II)I" } : Jvm.MethodName)) ∈ WG := xWG (List.mem_of_getElem? (i := 255) (by decide +kernel)) (by decide +kernel)
theorem wd_256 : (Jvm.Cond.selects "EchoLine$Chamber" ({ cls := "EchoLine$Chamber", name := "delayBetween", desc := "(II)I" } : Jvm.MethodName) ({ cls := "EchoLine$Chamber", name := "delayBetween", desc := "(II)I" } : Jvm.MethodName)) ∈ WG := xWG (List.mem_of_getElem? (i := 256) (by decide +kernel)) (by decide +kernel)
theorem wd_61 : (Jvm.Cond.initialized "EchoLine$Chamber") ∈ WG := xWG (List.mem_of_getElem? (i := 61) (by decide +kernel)) (by decide +kernel)
theorem wd_257 : (Jvm.Cond.code ({ cls := "EchoLine$Chamber", name := "delayBetween", desc := "(II)I" } : Jvm.MethodName) prog_2_method_8_code (6 : Nat) (Option.some Jvm.ClassFile.FieldType.int)) ∈ WG := xWG (List.mem_of_getElem? (i := 257) (by decide +kernel)) (by decide +kernel)
theorem ck_X0_57 : xCal RX0 57 RX0 yX0_delayBetween cX0_delayBetween 6 (some .int) 2 := ⟨⟨wd_543, wd_255, wd_256, wd_61, wd_257⟩, rfl, by decide +kernel, by decide +kernel, by decide +kernel⟩
theorem wd_544 : (Jvm.Cond.methodLink "EchoLine$Chamber" (61 : Nat) ({ cls := "EchoLine$Chamber", name := "messagePlace", desc := "(II)I" } : Jvm.MethodName)) ∈ WG := xWG (List.mem_of_getElem? (i := 544) (by decide +kernel)) (by decide +kernel)
theorem wd_328 : (Jvm.Cond.static ({ cls := "EchoLine$Chamber", name := "messagePlace", desc := "(II)I" } : Jvm.MethodName)) ∈ WG := xWG (List.mem_of_getElem? (i := 328) (by decide +kernel)) (by decide +kernel)
theorem wd_329 : (Jvm.Cond.code ({ cls := "EchoLine$Chamber", name := "messagePlace", desc := "(II)I" } : Jvm.MethodName) prog_2_method_10_code (2 : Nat) (Option.some Jvm.ClassFile.FieldType.int)) ∈ WG := xWG (List.mem_of_getElem? (i := 329) (by decide +kernel)) (by decide +kernel)
theorem ck_X0_61 : xCaS RX0 61 yX0_messagePlace cX0_messagePlace 2 (some .int) 2 := ⟨⟨wd_544, wd_328, wd_61, wd_329⟩, by decide +kernel, by decide +kernel, by decide +kernel⟩
theorem wd_545 : (Jvm.Cond.methodLink "EchoLine$Chamber" (64 : Nat) ({ cls := "EchoLine$Chamber", name := "endBeat", desc := "()V" } : Jvm.MethodName)) ∈ WG := xWG (List.mem_of_getElem? (i := 545) (by decide +kernel)) (by decide +kernel)
theorem wd_547 : (Jvm.Cond.instanceMethod ({ cls := "EchoLine$Chamber", name := "endBeat", desc := "()V" } : Jvm.MethodName)) ∈ WG := xWG (List.mem_of_getElem? (i := 547) (by decide +kernel)) (by decide +kernel)
theorem wd_19 : (Jvm.Cond.selects "EchoLine$Chamber" ({ cls := "EchoLine$Chamber", name := "endBeat", desc := "()V" } : Jvm.MethodName) ({ cls := "EchoLine$Chamber", name := "endBeat", desc := "()V" } : Jvm.MethodName)) ∈ WG := xWG (List.mem_of_getElem? (i := 19) (by decide +kernel)) (by decide +kernel)
theorem wd_548 : (Jvm.Cond.code ({ cls := "EchoLine$Chamber", name := "endBeat", desc := "()V" } : Jvm.MethodName) prog_2_method_7_code (3 : Nat) (Option.none : Option Jvm.ClassFile.FieldType)) ∈ WG := xWG (List.mem_of_getElem? (i := 548) (by decide +kernel)) (by decide +kernel)
theorem ck_X0_64 : xCal RX0 64 RX0 yX0_endBeat cX0_endBeat 3 none 0 := ⟨⟨wd_545, wd_547, wd_19, wd_61, wd_548⟩, rfl, by decide +kernel, by decide +kernel, by decide +kernel⟩
theorem wd_549 : (Jvm.Cond.methodLink "EchoLine$Chamber" (67 : Nat) ({ cls := "EchoLine$Chamber", name := "secondLast", desc := "(II)I" } : Jvm.MethodName)) ∈ WG := xWG (List.mem_of_getElem? (i := 549) (by decide +kernel)) (by decide +kernel)
theorem wd_368 : (Jvm.Cond.instanceMethod ({ cls := "EchoLine$Chamber", name := "secondLast", desc := "(II)I" } : Jvm.MethodName)) ∈ WG := xWG (List.mem_of_getElem? (i := 368) (by decide +kernel)) (by decide +kernel)
theorem wd_369 : (Jvm.Cond.selects "EchoLine$Chamber" ({ cls := "EchoLine$Chamber", name := "secondLast", desc := "(II)I" } : Jvm.MethodName) ({ cls := "EchoLine$Chamber", name := "secondLast", desc := "(II)I" } : Jvm.MethodName)) ∈ WG := xWG (List.mem_of_getElem? (i := 369) (by decide +kernel)) (by decide +kernel)
theorem wd_370 : (Jvm.Cond.code ({ cls := "EchoLine$Chamber", name := "secondLast", desc := "(II)I" } : Jvm.MethodName) prog_2_method_9_code (9 : Nat) (Option.some Jvm.ClassFile.FieldType.int)) ∈ WG := xWG (List.mem_of_getElem? (i := 370) (by decide +kernel)) (by decide +kernel)
theorem ck_X0_67 : xCal RX0 67 RX0 yX0_secondLast cX0_secondLast 9 (some .int) 2 := ⟨⟨wd_549, wd_368, wd_369, wd_61, wd_370⟩, rfl, by decide +kernel, by decide +kernel, by decide +kernel⟩
theorem wd_258 : (Jvm.Cond.methodLink "EchoLine$Chamber" (70 : Nat) ({ cls := "java/lang/Math", name := "abs", desc := "(I)I" } : Jvm.MethodName)) ∈ WG := xWG (List.mem_of_getElem? (i := 258) (by decide +kernel)) (by decide +kernel)
theorem wd_259 : (Jvm.Cond.static ({ cls := "java/lang/Math", name := "abs", desc := "(I)I" } : Jvm.MethodName)) ∈ WG := xWG (List.mem_of_getElem? (i := 259) (by decide +kernel)) (by decide +kernel)
theorem wd_73 : (Jvm.Cond.initialized "java/lang/Math") ∈ WG := xWG (List.mem_of_getElem? (i := 73) (by decide +kernel)) (by decide +kernel)
theorem wd_260 : (Jvm.Cond.code ({ cls := "java/lang/Math", name := "abs", desc := "(I)I" } : Jvm.MethodName) prog_14_method_59_code (1 : Nat) (Option.some Jvm.ClassFile.FieldType.int)) ∈ WG := xWG (List.mem_of_getElem? (i := 260) (by decide +kernel)) (by decide +kernel)
theorem wd_261 : (Jvm.Cond.methodLink "EchoLine$Chamber" (76 : Nat) ({ cls := "java/lang/Math", name := "min", desc := "(II)I" } : Jvm.MethodName)) ∈ WG := xWG (List.mem_of_getElem? (i := 261) (by decide +kernel)) (by decide +kernel)
theorem wd_262 : (Jvm.Cond.static ({ cls := "java/lang/Math", name := "min", desc := "(II)I" } : Jvm.MethodName)) ∈ WG := xWG (List.mem_of_getElem? (i := 262) (by decide +kernel)) (by decide +kernel)
theorem wd_263 : (Jvm.Cond.code ({ cls := "java/lang/Math", name := "min", desc := "(II)I" } : Jvm.MethodName) prog_14_method_69_code (2 : Nat) (Option.some Jvm.ClassFile.FieldType.int)) ∈ WG := xWG (List.mem_of_getElem? (i := 263) (by decide +kernel)) (by decide +kernel)
theorem wd_288 : (Jvm.Cond.methodLink "EchoLine$Hash" (3 : Nat) ({ cls := "java/lang/Object", name := "<init>", desc := "()V" } : Jvm.MethodName)) ∈ WG := xWG (List.mem_of_getElem? (i := 288) (by decide +kernel)) (by decide +kernel)
theorem wd_289 : (Jvm.Cond.constantLong "EchoLine$Hash" (9 : Nat) (3853 : Int64)) ∈ WG := xWG (List.mem_of_getElem? (i := 289) (by decide +kernel)) (by decide +kernel)
theorem wd_290 : (Jvm.Cond.fieldLink "EchoLine$Hash" (11 : Nat) "EchoLine$Hash" "value" "J") ∈ WG := xWG (List.mem_of_getElem? (i := 290) (by decide +kernel)) (by decide +kernel)
theorem fk_X1_11 : xFld RX1 11 1 1 0 1 := ⟨by decide, RX1, TX1, rfl, by decide, rfl, wd_290⟩
theorem wd_334 : (Jvm.Cond.constantLong "EchoLine$Hash" (15 : Nat) (31 : Int64)) ∈ WG := xWG (List.mem_of_getElem? (i := 334) (by decide +kernel)) (by decide +kernel)
theorem wd_406 : (Jvm.Cond.constantDouble "EchoLine$Hash" (17 : Nat) (4611686018427387904 : UInt64)) ∈ WG := xWG (List.mem_of_getElem? (i := 406) (by decide +kernel)) (by decide +kernel)
theorem wd_407 : (Jvm.Cond.constantDouble "EchoLine$Hash" (19 : Nat) (4841369599423283200 : UInt64)) ∈ WG := xWG (List.mem_of_getElem? (i := 407) (by decide +kernel)) (by decide +kernel)
theorem wd_162 : (Jvm.Cond.methodLink "EchoLine$History" (3 : Nat) ({ cls := "java/lang/Object", name := "<init>", desc := "()V" } : Jvm.MethodName)) ∈ WG := xWG (List.mem_of_getElem? (i := 162) (by decide +kernel)) (by decide +kernel)
theorem wd_163 : (Jvm.Cond.classLink "EchoLine$History" (9 : Nat) "EchoLine$Chamber") ∈ WG := xWG (List.mem_of_getElem? (i := 163) (by decide +kernel)) (by decide +kernel)
theorem wd_167 : (Jvm.Cond.fieldLink "EchoLine$History" (11 : Nat) "EchoLine$History" "saved" "[LEchoLine$Chamber;") ∈ WG := xWG (List.mem_of_getElem? (i := 167) (by decide +kernel)) (by decide +kernel)
theorem fk_X2_11 : xFld RX2 11 2 2 1 2 := ⟨by decide, RX2, TX2, rfl, by decide, rfl, wd_167⟩
theorem wd_165 : (Jvm.Cond.fieldLink "EchoLine$History" (17 : Nat) "EchoLine$History" "size" "I") ∈ WG := xWG (List.mem_of_getElem? (i := 165) (by decide +kernel)) (by decide +kernel)
theorem fk_X2_17 : xFld RX2 17 2 2 0 0 := ⟨by decide, RX2, TX2, rfl, by decide, rfl, wd_165⟩
theorem wd_533 : (Jvm.Cond.methodLink "EchoLine$History" (21 : Nat) ({ cls := "EchoLine$History", name := "dropOldest", desc := "()V" } : Jvm.MethodName)) ∈ WG := xWG (List.mem_of_getElem? (i := 533) (by decide +kernel)) (by decide +kernel)
theorem wd_535 : (Jvm.Cond.instanceMethod ({ cls := "EchoLine$History", name := "dropOldest", desc := "()V" } : Jvm.MethodName)) ∈ WG := xWG (List.mem_of_getElem? (i := 535) (by decide +kernel)) (by decide +kernel)
theorem wd_18 : (Jvm.Cond.selects "EchoLine$History" ({ cls := "EchoLine$History", name := "dropOldest", desc := "()V" } : Jvm.MethodName) ({ cls := "EchoLine$History", name := "dropOldest", desc := "()V" } : Jvm.MethodName)) ∈ WG := xWG (List.mem_of_getElem? (i := 18) (by decide +kernel)) (by decide +kernel)
theorem wd_63 : (Jvm.Cond.initialized "EchoLine$History") ∈ WG := xWG (List.mem_of_getElem? (i := 63) (by decide +kernel)) (by decide +kernel)
theorem wd_536 : (Jvm.Cond.code ({ cls := "EchoLine$History", name := "dropOldest", desc := "()V" } : Jvm.MethodName) prog_4_method_3_code (3 : Nat) (Option.none : Option Jvm.ClassFile.FieldType)) ∈ WG := xWG (List.mem_of_getElem? (i := 536) (by decide +kernel)) (by decide +kernel)
theorem ck_X2_21 : xCal RX2 21 RX2 yX2_dropOldest cX2_dropOldest 3 none 0 := ⟨⟨wd_533, wd_535, wd_18, wd_63, wd_536⟩, rfl, by decide +kernel, by decide +kernel, by decide +kernel⟩
theorem wd_85 : (Jvm.Cond.instantiable "EchoLine$Chamber" (12 : Nat)) ∈ WG := xWG (List.mem_of_getElem? (i := 85) (by decide +kernel)) (by decide +kernel)
theorem wd_87 : (Jvm.Cond.instanceMethod ({ cls := "EchoLine$Chamber", name := "<init>", desc := "()V" } : Jvm.MethodName)) ∈ WG := xWG (List.mem_of_getElem? (i := 87) (by decide +kernel)) (by decide +kernel)
theorem wn_537 : (Jvm.Cond.methodLinkNest "EchoLine$History" (24 : Nat) ({ cls := "EchoLine$Chamber", name := "<init>", desc := "()V" } : Jvm.MethodName) "EchoLine") ∈ WN := xWN (List.mem_of_getElem? (i := 537) (by decide +kernel)) (by decide +kernel)
theorem wd_88 : (Jvm.Cond.code ({ cls := "EchoLine$Chamber", name := "<init>", desc := "()V" } : Jvm.MethodName) prog_2_method_1_code (1 : Nat) (Option.none : Option Jvm.ClassFile.FieldType)) ∈ WG := xWG (List.mem_of_getElem? (i := 88) (by decide +kernel)) (by decide +kernel)
theorem ck_X2_24 : xCaN RX2 24 yX0_init "EchoLine" cX0_init 1 none (.instanceMethod yX0_init) 0 := ⟨⟨wn_537, wd_87, wd_61, wd_88⟩, by decide +kernel, by decide +kernel, by decide +kernel⟩
theorem wd_538 : (Jvm.Cond.methodLink "EchoLine$History" (25 : Nat) ({ cls := "EchoLine$Chamber", name := "become", desc := "(LEchoLine$Chamber;)V" } : Jvm.MethodName)) ∈ WG := xWG (List.mem_of_getElem? (i := 538) (by decide +kernel)) (by decide +kernel)
theorem wd_240 : (Jvm.Cond.instanceMethod ({ cls := "EchoLine$Chamber", name := "become", desc := "(LEchoLine$Chamber;)V" } : Jvm.MethodName)) ∈ WG := xWG (List.mem_of_getElem? (i := 240) (by decide +kernel)) (by decide +kernel)
theorem wd_241 : (Jvm.Cond.selects "EchoLine$Chamber" ({ cls := "EchoLine$Chamber", name := "become", desc := "(LEchoLine$Chamber;)V" } : Jvm.MethodName) ({ cls := "EchoLine$Chamber", name := "become", desc := "(LEchoLine$Chamber;)V" } : Jvm.MethodName)) ∈ WG := xWG (List.mem_of_getElem? (i := 241) (by decide +kernel)) (by decide +kernel)
theorem wd_242 : (Jvm.Cond.code ({ cls := "EchoLine$Chamber", name := "become", desc := "(LEchoLine$Chamber;)V" } : Jvm.MethodName) prog_2_method_2_code (3 : Nat) (Option.none : Option Jvm.ClassFile.FieldType)) ∈ WG := xWG (List.mem_of_getElem? (i := 242) (by decide +kernel)) (by decide +kernel)
theorem ck_X2_25 : xCal RX2 25 RX0 yX0_become cX0_become 3 none 1 := ⟨⟨wd_538, wd_240, wd_241, wd_61, wd_242⟩, rfl, by decide +kernel, by decide +kernel, by decide +kernel⟩
theorem wd_152 : (Jvm.Cond.methodLink "EchoLine$Report" (3 : Nat) ({ cls := "java/lang/Object", name := "<init>", desc := "()V" } : Jvm.MethodName)) ∈ WG := xWG (List.mem_of_getElem? (i := 152) (by decide +kernel)) (by decide +kernel)
theorem wd_153 : (Jvm.Cond.fieldLink "EchoLine$Report" (9 : Nat) "EchoLine$Report" "chamber" "LEchoLine$Chamber;") ∈ WG := xWG (List.mem_of_getElem? (i := 153) (by decide +kernel)) (by decide +kernel)
theorem fk_X3_9 : xFld RX3 9 3 1 0 2 := ⟨by decide, RX3, TX3, rfl, by decide, rfl, wd_153⟩
theorem wd_105 : (Jvm.Cond.fieldLink "EchoLine$Report" (15 : Nat) "EchoLine$Chamber" "seatOf" "[I") ∈ WG := xWG (List.mem_of_getElem? (i := 105) (by decide +kernel)) (by decide +kernel)
theorem fk_X3_15 : xFld RX3 15 0 12 4 2 := ⟨by decide, RX0, TX0, rfl, by decide, rfl, wd_105⟩
theorem wd_107 : (Jvm.Cond.fieldLink "EchoLine$Report" (21 : Nat) "EchoLine$Chamber" "wordOf" "[I") ∈ WG := xWG (List.mem_of_getElem? (i := 107) (by decide +kernel)) (by decide +kernel)
theorem fk_X3_21 : xFld RX3 21 0 12 5 2 := ⟨by decide, RX0, TX0, rfl, by decide, rfl, wd_107⟩
theorem wd_109 : (Jvm.Cond.fieldLink "EchoLine$Report" (24 : Nat) "EchoLine$Chamber" "markOf" "[I") ∈ WG := xWG (List.mem_of_getElem? (i := 109) (by decide +kernel)) (by decide +kernel)
theorem fk_X3_24 : xFld RX3 24 0 12 6 2 := ⟨by decide, RX0, TX0, rfl, by decide, rfl, wd_109⟩
theorem wd_111 : (Jvm.Cond.fieldLink "EchoLine$Report" (27 : Nat) "EchoLine$Chamber" "saidAt" "[I") ∈ WG := xWG (List.mem_of_getElem? (i := 111) (by decide +kernel)) (by decide +kernel)
theorem fk_X3_27 : xFld RX3 27 0 12 7 2 := ⟨by decide, RX0, TX0, rfl, by decide, rfl, wd_111⟩
theorem wd_113 : (Jvm.Cond.fieldLink "EchoLine$Report" (30 : Nat) "EchoLine$Chamber" "comesAt" "[[I") ∈ WG := xWG (List.mem_of_getElem? (i := 113) (by decide +kernel)) (by decide +kernel)
theorem fk_X3_30 : xFld RX3 30 0 12 8 2 := ⟨by decide, RX0, TX0, rfl, by decide, rfl, wd_113⟩
theorem wd_307 : (Jvm.Cond.methodLink "EchoLine$Report" (34 : Nat) ({ cls := "EchoLine$Report", name := "maskOf", desc := "([[II)I" } : Jvm.MethodName)) ∈ WG := xWG (List.mem_of_getElem? (i := 307) (by decide +kernel)) (by decide +kernel)
theorem wd_309 : (Jvm.Cond.instanceMethod ({ cls := "EchoLine$Report", name := "maskOf", desc := "([[II)I" } : Jvm.MethodName)) ∈ WG := xWG (List.mem_of_getElem? (i := 309) (by decide +kernel)) (by decide +kernel)
theorem wd_3 : (Jvm.Cond.selects "EchoLine$Report" ({ cls := "EchoLine$Report", name := "maskOf", desc := "([[II)I" } : Jvm.MethodName) ({ cls := "EchoLine$Report", name := "maskOf", desc := "([[II)I" } : Jvm.MethodName)) ∈ WG := xWG (List.mem_of_getElem? (i := 3) (by decide +kernel)) (by decide +kernel)
theorem wd_62 : (Jvm.Cond.initialized "EchoLine$Report") ∈ WG := xWG (List.mem_of_getElem? (i := 62) (by decide +kernel)) (by decide +kernel)
theorem wd_310 : (Jvm.Cond.code ({ cls := "EchoLine$Report", name := "maskOf", desc := "([[II)I" } : Jvm.MethodName) prog_5_method_3_code (5 : Nat) (Option.some Jvm.ClassFile.FieldType.int)) ∈ WG := xWG (List.mem_of_getElem? (i := 310) (by decide +kernel)) (by decide +kernel)
theorem ck_X3_34 : xCal RX3 34 RX3 yX3_maskOf cX3_maskOf 5 (some .int) 2 := ⟨⟨wd_307, wd_309, wd_3, wd_62, wd_310⟩, rfl, by decide +kernel, by decide +kernel, by decide +kernel⟩
theorem wd_116 : (Jvm.Cond.fieldLink "EchoLine$Report" (38 : Nat) "EchoLine$Chamber" "firstHeardAt" "[[I") ∈ WG := xWG (List.mem_of_getElem? (i := 116) (by decide +kernel)) (by decide +kernel)
theorem fk_X3_38 : xFld RX3 38 0 12 9 2 := ⟨by decide, RX0, TX0, rfl, by decide, rfl, wd_116⟩
theorem wd_118 : (Jvm.Cond.fieldLink "EchoLine$Report" (41 : Nat) "EchoLine$Chamber" "heardNumber" "[[I") ∈ WG := xWG (List.mem_of_getElem? (i := 118) (by decide +kernel)) (by decide +kernel)
theorem fk_X3_41 : xFld RX3 41 0 12 10 2 := ⟨by decide, RX0, TX0, rfl, by decide, rfl, wd_118⟩
theorem wd_351 : (Jvm.Cond.methodLink "EchoLine$Report" (44 : Nat) ({ cls := "EchoLine$Report", name := "isRepeated", desc := "(II)Z" } : Jvm.MethodName)) ∈ WG := xWG (List.mem_of_getElem? (i := 351) (by decide +kernel)) (by decide +kernel)
theorem wd_353 : (Jvm.Cond.instanceMethod ({ cls := "EchoLine$Report", name := "isRepeated", desc := "(II)Z" } : Jvm.MethodName)) ∈ WG := xWG (List.mem_of_getElem? (i := 353) (by decide +kernel)) (by decide +kernel)
theorem wd_10 : (Jvm.Cond.selects "EchoLine$Report" ({ cls := "EchoLine$Report", name := "isRepeated", desc := "(II)Z" } : Jvm.MethodName) ({ cls := "EchoLine$Report", name := "isRepeated", desc := "(II)Z" } : Jvm.MethodName)) ∈ WG := xWG (List.mem_of_getElem? (i := 10) (by decide +kernel)) (by decide +kernel)
theorem wd_354 : (Jvm.Cond.code ({ cls := "EchoLine$Report", name := "isRepeated", desc := "(II)Z" } : Jvm.MethodName) prog_5_method_5_code (4 : Nat) (Option.some Jvm.ClassFile.FieldType.boolean)) ∈ WG := xWG (List.mem_of_getElem? (i := 354) (by decide +kernel)) (by decide +kernel)
theorem ck_X3_44 : xCal RX3 44 RX3 yX3_isRepeated cX3_isRepeated 4 (some .boolean) 2 := ⟨⟨wd_351, wd_353, wd_10, wd_62, wd_354⟩, rfl, by decide +kernel, by decide +kernel, by decide +kernel⟩
theorem wd_100 : (Jvm.Cond.fieldLink "EchoLine$Report" (48 : Nat) "EchoLine$Chamber" "walls" "[I") ∈ WG := xWG (List.mem_of_getElem? (i := 100) (by decide +kernel)) (by decide +kernel)
theorem fk_X3_48 : xFld RX3 48 0 12 2 2 := ⟨by decide, RX0, TX0, rfl, by decide, rfl, wd_100⟩
theorem wd_275 : (Jvm.Cond.methodLink "EchoLine$Report" (51 : Nat) ({ cls := "EchoLine$Report", name := "heardBeats", desc := "(I)I" } : Jvm.MethodName)) ∈ WG := xWG (List.mem_of_getElem? (i := 275) (by decide +kernel)) (by decide +kernel)
theorem wd_277 : (Jvm.Cond.instanceMethod ({ cls := "EchoLine$Report", name := "heardBeats", desc := "(I)I" } : Jvm.MethodName)) ∈ WG := xWG (List.mem_of_getElem? (i := 277) (by decide +kernel)) (by decide +kernel)
theorem wd_0 : (Jvm.Cond.selects "EchoLine$Report" ({ cls := "EchoLine$Report", name := "heardBeats", desc := "(I)I" } : Jvm.MethodName) ({ cls := "EchoLine$Report", name := "heardBeats", desc := "(I)I" } : Jvm.MethodName)) ∈ WG := xWG (List.mem_of_getElem? (i := 0) (by decide +kernel)) (by decide +kernel)
theorem wd_278 : (Jvm.Cond.code ({ cls := "EchoLine$Report", name := "heardBeats", desc := "(I)I" } : Jvm.MethodName) prog_5_method_7_code (4 : Nat) (Option.some Jvm.ClassFile.FieldType.int)) ∈ WG := xWG (List.mem_of_getElem? (i := 278) (by decide +kernel)) (by decide +kernel)
theorem ck_X3_51 : xCal RX3 51 RX3 yX3_heardBeats cX3_heardBeats 4 (some .int) 1 := ⟨⟨wd_275, wd_277, wd_0, wd_62, wd_278⟩, rfl, by decide +kernel, by decide +kernel, by decide +kernel⟩
theorem wd_343 : (Jvm.Cond.methodLink "EchoLine$Report" (55 : Nat) ({ cls := "EchoLine$Report", name := "heardWordsByBeats", desc := "(I)I" } : Jvm.MethodName)) ∈ WG := xWG (List.mem_of_getElem? (i := 343) (by decide +kernel)) (by decide +kernel)
theorem wd_345 : (Jvm.Cond.instanceMethod ({ cls := "EchoLine$Report", name := "heardWordsByBeats", desc := "(I)I" } : Jvm.MethodName)) ∈ WG := xWG (List.mem_of_getElem? (i := 345) (by decide +kernel)) (by decide +kernel)
theorem wd_8 : (Jvm.Cond.selects "EchoLine$Report" ({ cls := "EchoLine$Report", name := "heardWordsByBeats", desc := "(I)I" } : Jvm.MethodName) ({ cls := "EchoLine$Report", name := "heardWordsByBeats", desc := "(I)I" } : Jvm.MethodName)) ∈ WG := xWG (List.mem_of_getElem? (i := 8) (by decide +kernel)) (by decide +kernel)
theorem wd_346 : (Jvm.Cond.code ({ cls := "EchoLine$Report", name := "heardWordsByBeats", desc := "(I)I" } : Jvm.MethodName) prog_5_method_8_code (5 : Nat) (Option.some Jvm.ClassFile.FieldType.int)) ∈ WG := xWG (List.mem_of_getElem? (i := 346) (by decide +kernel)) (by decide +kernel)
theorem ck_X3_55 : xCal RX3 55 RX3 yX3_heardWordsByBeats cX3_heardWordsByBeats 5 (some .int) 1 := ⟨⟨wd_343, wd_345, wd_8, wd_62, wd_346⟩, rfl, by decide +kernel, by decide +kernel, by decide +kernel⟩
theorem wd_347 : (Jvm.Cond.methodLink "EchoLine$Report" (58 : Nat) ({ cls := "EchoLine$Report", name := "repeatedBeats", desc := "(I)I" } : Jvm.MethodName)) ∈ WG := xWG (List.mem_of_getElem? (i := 347) (by decide +kernel)) (by decide +kernel)
theorem wd_349 : (Jvm.Cond.instanceMethod ({ cls := "EchoLine$Report", name := "repeatedBeats", desc := "(I)I" } : Jvm.MethodName)) ∈ WG := xWG (List.mem_of_getElem? (i := 349) (by decide +kernel)) (by decide +kernel)
theorem wd_9 : (Jvm.Cond.selects "EchoLine$Report" ({ cls := "EchoLine$Report", name := "repeatedBeats", desc := "(I)I" } : Jvm.MethodName) ({ cls := "EchoLine$Report", name := "repeatedBeats", desc := "(I)I" } : Jvm.MethodName)) ∈ WG := xWG (List.mem_of_getElem? (i := 9) (by decide +kernel)) (by decide +kernel)
theorem wd_350 : (Jvm.Cond.code ({ cls := "EchoLine$Report", name := "repeatedBeats", desc := "(I)I" } : Jvm.MethodName) prog_5_method_10_code (4 : Nat) (Option.some Jvm.ClassFile.FieldType.int)) ∈ WG := xWG (List.mem_of_getElem? (i := 350) (by decide +kernel)) (by decide +kernel)
theorem ck_X3_58 : xCal RX3 58 RX3 yX3_repeatedBeats cX3_repeatedBeats 4 (some .int) 1 := ⟨⟨wd_347, wd_349, wd_9, wd_62, wd_350⟩, rfl, by decide +kernel, by decide +kernel, by decide +kernel⟩
theorem wd_94 : (Jvm.Cond.fieldLink "EchoLine$Report" (61 : Nat) "EchoLine$Chamber" "beat" "I") ∈ WG := xWG (List.mem_of_getElem? (i := 94) (by decide +kernel)) (by decide +kernel)
theorem fk_X3_61 : xFld RX3 61 0 12 0 0 := ⟨by decide, RX0, TX0, rfl, by decide, rfl, wd_94⟩
theorem wd_355 : (Jvm.Cond.methodLink "EchoLine$Report" (65 : Nat) ({ cls := "EchoLine$Report", name := "gaps", desc := "(I)I" } : Jvm.MethodName)) ∈ WG := xWG (List.mem_of_getElem? (i := 355) (by decide +kernel)) (by decide +kernel)
theorem wd_357 : (Jvm.Cond.instanceMethod ({ cls := "EchoLine$Report", name := "gaps", desc := "(I)I" } : Jvm.MethodName)) ∈ WG := xWG (List.mem_of_getElem? (i := 357) (by decide +kernel)) (by decide +kernel)
theorem wd_11 : (Jvm.Cond.selects "EchoLine$Report" ({ cls := "EchoLine$Report", name := "gaps", desc := "(I)I" } : Jvm.MethodName) ({ cls := "EchoLine$Report", name := "gaps", desc := "(I)I" } : Jvm.MethodName)) ∈ WG := xWG (List.mem_of_getElem? (i := 11) (by decide +kernel)) (by decide +kernel)
theorem wd_358 : (Jvm.Cond.code ({ cls := "EchoLine$Report", name := "gaps", desc := "(I)I" } : Jvm.MethodName) prog_5_method_11_code (6 : Nat) (Option.some Jvm.ClassFile.FieldType.int)) ∈ WG := xWG (List.mem_of_getElem? (i := 358) (by decide +kernel)) (by decide +kernel)
theorem ck_X3_65 : xCal RX3 65 RX3 yX3_gaps cX3_gaps 6 (some .int) 1 := ⟨⟨wd_355, wd_357, wd_11, wd_62, wd_358⟩, rfl, by decide +kernel, by decide +kernel, by decide +kernel⟩
theorem wd_359 : (Jvm.Cond.methodLink "EchoLine$Report" (68 : Nat) ({ cls := "EchoLine$Report", name := "wordsSaidBy", desc := "(I)I" } : Jvm.MethodName)) ∈ WG := xWG (List.mem_of_getElem? (i := 359) (by decide +kernel)) (by decide +kernel)
theorem wd_361 : (Jvm.Cond.instanceMethod ({ cls := "EchoLine$Report", name := "wordsSaidBy", desc := "(I)I" } : Jvm.MethodName)) ∈ WG := xWG (List.mem_of_getElem? (i := 361) (by decide +kernel)) (by decide +kernel)
theorem wd_12 : (Jvm.Cond.selects "EchoLine$Report" ({ cls := "EchoLine$Report", name := "wordsSaidBy", desc := "(I)I" } : Jvm.MethodName) ({ cls := "EchoLine$Report", name := "wordsSaidBy", desc := "(I)I" } : Jvm.MethodName)) ∈ WG := xWG (List.mem_of_getElem? (i := 12) (by decide +kernel)) (by decide +kernel)
theorem wd_362 : (Jvm.Cond.code ({ cls := "EchoLine$Report", name := "wordsSaidBy", desc := "(I)I" } : Jvm.MethodName) prog_5_method_12_code (4 : Nat) (Option.some Jvm.ClassFile.FieldType.int)) ∈ WG := xWG (List.mem_of_getElem? (i := 362) (by decide +kernel)) (by decide +kernel)
theorem ck_X3_68 : xCal RX3 68 RX3 yX3_wordsSaidBy cX3_wordsSaidBy 4 (some .int) 1 := ⟨⟨wd_359, wd_361, wd_12, wd_62, wd_362⟩, rfl, by decide +kernel, by decide +kernel, by decide +kernel⟩
theorem wd_363 : (Jvm.Cond.methodLink "EchoLine$Report" (71 : Nat) ({ cls := "EchoLine$Report", name := "heardWordsByWords", desc := "(I)I" } : Jvm.MethodName)) ∈ WG := xWG (List.mem_of_getElem? (i := 363) (by decide +kernel)) (by decide +kernel)
theorem wd_365 : (Jvm.Cond.instanceMethod ({ cls := "EchoLine$Report", name := "heardWordsByWords", desc := "(I)I" } : Jvm.MethodName)) ∈ WG := xWG (List.mem_of_getElem? (i := 365) (by decide +kernel)) (by decide +kernel)
theorem wd_13 : (Jvm.Cond.selects "EchoLine$Report" ({ cls := "EchoLine$Report", name := "heardWordsByWords", desc := "(I)I" } : Jvm.MethodName) ({ cls := "EchoLine$Report", name := "heardWordsByWords", desc := "(I)I" } : Jvm.MethodName)) ∈ WG := xWG (List.mem_of_getElem? (i := 13) (by decide +kernel)) (by decide +kernel)
theorem wd_366 : (Jvm.Cond.code ({ cls := "EchoLine$Report", name := "heardWordsByWords", desc := "(I)I" } : Jvm.MethodName) prog_5_method_9_code (4 : Nat) (Option.some Jvm.ClassFile.FieldType.int)) ∈ WG := xWG (List.mem_of_getElem? (i := 366) (by decide +kernel)) (by decide +kernel)
theorem ck_X3_71 : xCal RX3 71 RX3 yX3_heardWordsByWords cX3_heardWordsByWords 4 (some .int) 1 := ⟨⟨wd_363, wd_365, wd_13, wd_62, wd_366⟩, rfl, by decide +kernel, by decide +kernel, by decide +kernel⟩
theorem wd_96 : (Jvm.Cond.fieldLink "EchoLine$Report" (74 : Nat) "EchoLine$Chamber" "words" "I") ∈ WG := xWG (List.mem_of_getElem? (i := 96) (by decide +kernel)) (by decide +kernel)
theorem fk_X3_74 : xFld RX3 74 0 12 1 0 := ⟨by decide, RX0, TX0, rfl, by decide, rfl, wd_96⟩
theorem wd_120 : (Jvm.Cond.fieldLink "EchoLine$Report" (77 : Nat) "EchoLine$Chamber" "messageWords" "[I") ∈ WG := xWG (List.mem_of_getElem? (i := 120) (by decide +kernel)) (by decide +kernel)
theorem fk_X3_77 : xFld RX3 77 0 12 11 2 := ⟨by decide, RX0, TX0, rfl, by decide, rfl, wd_120⟩
theorem wd_327 : (Jvm.Cond.methodLink "EchoLine$Report" (80 : Nat) ({ cls := "EchoLine$Chamber", name := "messagePlace", desc := "(II)I" } : Jvm.MethodName)) ∈ WG := xWG (List.mem_of_getElem? (i := 327) (by decide +kernel)) (by decide +kernel)
theorem ck_X3_80 : xCaS RX3 80 yX0_messagePlace cX0_messagePlace 2 (some .int) 2 := ⟨⟨wd_327, wd_328, wd_61, wd_329⟩, by decide +kernel, by decide +kernel, by decide +kernel⟩
theorem wd_303 : (Jvm.Cond.methodLink "EchoLine$Report" (84 : Nat) ({ cls := "EchoLine$Report", name := "wordsHeardByMask", desc := "(I)I" } : Jvm.MethodName)) ∈ WG := xWG (List.mem_of_getElem? (i := 303) (by decide +kernel)) (by decide +kernel)
theorem wd_305 : (Jvm.Cond.instanceMethod ({ cls := "EchoLine$Report", name := "wordsHeardByMask", desc := "(I)I" } : Jvm.MethodName)) ∈ WG := xWG (List.mem_of_getElem? (i := 305) (by decide +kernel)) (by decide +kernel)
theorem wd_2 : (Jvm.Cond.selects "EchoLine$Report" ({ cls := "EchoLine$Report", name := "wordsHeardByMask", desc := "(I)I" } : Jvm.MethodName) ({ cls := "EchoLine$Report", name := "wordsHeardByMask", desc := "(I)I" } : Jvm.MethodName)) ∈ WG := xWG (List.mem_of_getElem? (i := 2) (by decide +kernel)) (by decide +kernel)
theorem wd_306 : (Jvm.Cond.code ({ cls := "EchoLine$Report", name := "wordsHeardByMask", desc := "(I)I" } : Jvm.MethodName) prog_5_method_15_code (4 : Nat) (Option.some Jvm.ClassFile.FieldType.int)) ∈ WG := xWG (List.mem_of_getElem? (i := 306) (by decide +kernel)) (by decide +kernel)
theorem ck_X3_84 : xCal RX3 84 RX3 yX3_wordsHeardByMask cX3_wordsHeardByMask 4 (some .int) 1 := ⟨⟨wd_303, wd_305, wd_2, wd_62, wd_306⟩, rfl, by decide +kernel, by decide +kernel, by decide +kernel⟩
theorem wd_311 : (Jvm.Cond.methodLink "EchoLine$Report" (87 : Nat) ({ cls := "EchoLine$Report", name := "messages", desc := "()I" } : Jvm.MethodName)) ∈ WG := xWG (List.mem_of_getElem? (i := 311) (by decide +kernel)) (by decide +kernel)
theorem wd_313 : (Jvm.Cond.instanceMethod ({ cls := "EchoLine$Report", name := "messages", desc := "()I" } : Jvm.MethodName)) ∈ WG := xWG (List.mem_of_getElem? (i := 313) (by decide +kernel)) (by decide +kernel)
theorem wd_4 : (Jvm.Cond.selects "EchoLine$Report" ({ cls := "EchoLine$Report", name := "messages", desc := "()I" } : Jvm.MethodName) ({ cls := "EchoLine$Report", name := "messages", desc := "()I" } : Jvm.MethodName)) ∈ WG := xWG (List.mem_of_getElem? (i := 4) (by decide +kernel)) (by decide +kernel)
theorem wd_314 : (Jvm.Cond.code ({ cls := "EchoLine$Report", name := "messages", desc := "()I" } : Jvm.MethodName) prog_5_method_16_code (3 : Nat) (Option.some Jvm.ClassFile.FieldType.int)) ∈ WG := xWG (List.mem_of_getElem? (i := 314) (by decide +kernel)) (by decide +kernel)
theorem ck_X3_87 : xCal RX3 87 RX3 yX3_messages cX3_messages 3 (some .int) 0 := ⟨⟨wd_311, wd_313, wd_4, wd_62, wd_314⟩, rfl, by decide +kernel, by decide +kernel, by decide +kernel⟩
theorem wd_315 : (Jvm.Cond.methodLink "EchoLine$Report" (91 : Nat) ({ cls := "EchoLine$Report", name := "messagesHeardWhole", desc := "()I" } : Jvm.MethodName)) ∈ WG := xWG (List.mem_of_getElem? (i := 315) (by decide +kernel)) (by decide +kernel)
theorem wd_317 : (Jvm.Cond.instanceMethod ({ cls := "EchoLine$Report", name := "messagesHeardWhole", desc := "()I" } : Jvm.MethodName)) ∈ WG := xWG (List.mem_of_getElem? (i := 317) (by decide +kernel)) (by decide +kernel)
theorem wd_5 : (Jvm.Cond.selects "EchoLine$Report" ({ cls := "EchoLine$Report", name := "messagesHeardWhole", desc := "()I" } : Jvm.MethodName) ({ cls := "EchoLine$Report", name := "messagesHeardWhole", desc := "()I" } : Jvm.MethodName)) ∈ WG := xWG (List.mem_of_getElem? (i := 5) (by decide +kernel)) (by decide +kernel)
theorem wd_318 : (Jvm.Cond.code ({ cls := "EchoLine$Report", name := "messagesHeardWhole", desc := "()I" } : Jvm.MethodName) prog_5_method_17_code (4 : Nat) (Option.some Jvm.ClassFile.FieldType.int)) ∈ WG := xWG (List.mem_of_getElem? (i := 318) (by decide +kernel)) (by decide +kernel)
theorem ck_X3_91 : xCal RX3 91 RX3 yX3_messagesHeardWhole cX3_messagesHeardWhole 4 (some .int) 0 := ⟨⟨wd_315, wd_317, wd_5, wd_62, wd_318⟩, rfl, by decide +kernel, by decide +kernel, by decide +kernel⟩
theorem wd_103 : (Jvm.Cond.fieldLink "EchoLine$Report" (94 : Nat) "EchoLine$Chamber" "settings" "[I") ∈ WG := xWG (List.mem_of_getElem? (i := 103) (by decide +kernel)) (by decide +kernel)
theorem fk_X3_94 : xFld RX3 94 0 12 3 2 := ⟨by decide, RX0, TX0, rfl, by decide, rfl, wd_103⟩
theorem wd_319 : (Jvm.Cond.methodLink "EchoLine$Report" (97 : Nat) ({ cls := "EchoLine$Report", name := "allHeardWhole", desc := "(II)Z" } : Jvm.MethodName)) ∈ WG := xWG (List.mem_of_getElem? (i := 319) (by decide +kernel)) (by decide +kernel)
theorem wd_321 : (Jvm.Cond.instanceMethod ({ cls := "EchoLine$Report", name := "allHeardWhole", desc := "(II)Z" } : Jvm.MethodName)) ∈ WG := xWG (List.mem_of_getElem? (i := 321) (by decide +kernel)) (by decide +kernel)
theorem wd_6 : (Jvm.Cond.selects "EchoLine$Report" ({ cls := "EchoLine$Report", name := "allHeardWhole", desc := "(II)Z" } : Jvm.MethodName) ({ cls := "EchoLine$Report", name := "allHeardWhole", desc := "(II)Z" } : Jvm.MethodName)) ∈ WG := xWG (List.mem_of_getElem? (i := 6) (by decide +kernel)) (by decide +kernel)
theorem wd_322 : (Jvm.Cond.code ({ cls := "EchoLine$Report", name := "allHeardWhole", desc := "(II)Z" } : Jvm.MethodName) prog_5_method_18_code (4 : Nat) (Option.some Jvm.ClassFile.FieldType.boolean)) ∈ WG := xWG (List.mem_of_getElem? (i := 322) (by decide +kernel)) (by decide +kernel)
theorem ck_X3_97 : xCal RX3 97 RX3 yX3_allHeardWhole cX3_allHeardWhole 4 (some .boolean) 2 := ⟨⟨wd_319, wd_321, wd_6, wd_62, wd_322⟩, rfl, by decide +kernel, by decide +kernel, by decide +kernel⟩
theorem wd_323 : (Jvm.Cond.methodLink "EchoLine$Report" (100 : Nat) ({ cls := "EchoLine$Report", name := "hearingOf", desc := "(III)I" } : Jvm.MethodName)) ∈ WG := xWG (List.mem_of_getElem? (i := 323) (by decide +kernel)) (by decide +kernel)
theorem wd_324 : (Jvm.Cond.instanceMethod ({ cls := "EchoLine$Report", name := "hearingOf", desc := "(III)I" } : Jvm.MethodName)) ∈ WG := xWG (List.mem_of_getElem? (i := 324) (by decide +kernel)) (by decide +kernel)
theorem wd_325 : (Jvm.Cond.selects "EchoLine$Report" ({ cls := "EchoLine$Report", name := "hearingOf", desc := "(III)I" } : Jvm.MethodName) ({ cls := "EchoLine$Report", name := "hearingOf", desc := "(III)I" } : Jvm.MethodName)) ∈ WG := xWG (List.mem_of_getElem? (i := 325) (by decide +kernel)) (by decide +kernel)
theorem wd_326 : (Jvm.Cond.code ({ cls := "EchoLine$Report", name := "hearingOf", desc := "(III)I" } : Jvm.MethodName) prog_5_method_13_code (11 : Nat) (Option.some Jvm.ClassFile.FieldType.int)) ∈ WG := xWG (List.mem_of_getElem? (i := 326) (by decide +kernel)) (by decide +kernel)
theorem ck_X3_100 : xCal RX3 100 RX3 yX3_hearingOf cX3_hearingOf 11 (some .int) 3 := ⟨⟨wd_323, wd_324, wd_325, wd_62, wd_326⟩, rfl, by decide +kernel, by decide +kernel, by decide +kernel⟩
theorem wd_401 : (Jvm.Cond.methodLink "EchoLine$Report" (104 : Nat) ({ cls := "EchoLine$Chamber", name := "secondLast", desc := "(II)I" } : Jvm.MethodName)) ∈ WG := xWG (List.mem_of_getElem? (i := 401) (by decide +kernel)) (by decide +kernel)
theorem ck_X3_104 : xCal RX3 104 RX0 yX0_secondLast cX0_secondLast 9 (some .int) 2 := ⟨⟨wd_401, wd_368, wd_369, wd_61, wd_370⟩, rfl, by decide +kernel, by decide +kernel, by decide +kernel⟩
theorem wd_254 : (Jvm.Cond.methodLink "EchoLine$Report" (107 : Nat) ({ cls := "EchoLine$Chamber", name := "delayBetween", desc := "(II)I" } : Jvm.MethodName)) ∈ WG := xWG (List.mem_of_getElem? (i := 254) (by decide +kernel)) (by decide +kernel)
theorem ck_X3_107 : xCal RX3 107 RX0 yX0_delayBetween cX0_delayBetween 6 (some .int) 2 := ⟨⟨wd_254, wd_255, wd_256, wd_61, wd_257⟩, rfl, by decide +kernel, by decide +kernel, by decide +kernel⟩
theorem wd_264 : (Jvm.Cond.methodLink "EchoLine$Report" (110 : Nat) ({ cls := "java/lang/Math", name := "max", desc := "(II)I" } : Jvm.MethodName)) ∈ WG := xWG (List.mem_of_getElem? (i := 264) (by decide +kernel)) (by decide +kernel)
theorem wd_265 : (Jvm.Cond.static ({ cls := "java/lang/Math", name := "max", desc := "(II)I" } : Jvm.MethodName)) ∈ WG := xWG (List.mem_of_getElem? (i := 265) (by decide +kernel)) (by decide +kernel)
theorem wd_266 : (Jvm.Cond.code ({ cls := "java/lang/Math", name := "max", desc := "(II)I" } : Jvm.MethodName) prog_14_method_65_code (2 : Nat) (Option.some Jvm.ClassFile.FieldType.int)) ∈ WG := xWG (List.mem_of_getElem? (i := 266) (by decide +kernel)) (by decide +kernel)
theorem wd_178 : (Jvm.Cond.methodLink "EchoLine$Text" (3 : Nat) ({ cls := "java/lang/Object", name := "<init>", desc := "()V" } : Jvm.MethodName)) ∈ WG := xWG (List.mem_of_getElem? (i := 178) (by decide +kernel)) (by decide +kernel)
theorem wd_188 : (Jvm.Cond.arrayClass Jvm.ClassFile.FieldType.char) ∈ WG := xWG (List.mem_of_getElem? (i := 188) (by decide +kernel)) (by decide +kernel)
theorem wd_181 : (Jvm.Cond.fieldLink "EchoLine$Text" (9 : Nat) "EchoLine$Text" "signs" "[C") ∈ WG := xWG (List.mem_of_getElem? (i := 181) (by decide +kernel)) (by decide +kernel)
theorem fk_X4_9 : xFld RX4 9 4 2 1 2 := ⟨by decide, RX4, TX4, rfl, by decide, rfl, wd_181⟩
theorem wd_179 : (Jvm.Cond.fieldLink "EchoLine$Text" (15 : Nat) "EchoLine$Text" "length" "I") ∈ WG := xWG (List.mem_of_getElem? (i := 179) (by decide +kernel)) (by decide +kernel)
theorem fk_X4_15 : xFld RX4 15 4 2 0 0 := ⟨by decide, RX4, TX4, rfl, by decide, rfl, wd_179⟩
theorem wd_217 : (Jvm.Cond.methodLink "EchoLine$Text" (19 : Nat) ({ cls := "EchoLine$Text", name := "next", desc := "(IC)I" } : Jvm.MethodName)) ∈ WG := xWG (List.mem_of_getElem? (i := 217) (by decide +kernel)) (by decide +kernel)
theorem wd_218 : (Jvm.Cond.static ({ cls := "EchoLine$Text", name := "next", desc := "(IC)I" } : Jvm.MethodName)) ∈ WG := xWG (List.mem_of_getElem? (i := 218) (by decide +kernel)) (by decide +kernel)
theorem wd_64 : (Jvm.Cond.initialized "EchoLine$Text") ∈ WG := xWG (List.mem_of_getElem? (i := 64) (by decide +kernel)) (by decide +kernel)
theorem wd_219 : (Jvm.Cond.code ({ cls := "EchoLine$Text", name := "next", desc := "(IC)I" } : Jvm.MethodName) prog_6_method_5_code (2 : Nat) (Option.some Jvm.ClassFile.FieldType.int)) ∈ WG := xWG (List.mem_of_getElem? (i := 219) (by decide +kernel)) (by decide +kernel)
theorem ck_X4_19 : xCaS RX4 19 yX4_next cX4_next 2 (some .int) 2 := ⟨⟨wd_217, wd_218, wd_64, wd_219⟩, by decide +kernel, by decide +kernel, by decide +kernel⟩
theorem wd_221 : (Jvm.Cond.static ({ cls := "EchoLine", name := "isWithin", desc := "(III)Z" } : Jvm.MethodName)) ∈ WG := xWG (List.mem_of_getElem? (i := 221) (by decide +kernel)) (by decide +kernel)
theorem wn_220 : (Jvm.Cond.methodLinkNest "EchoLine$Text" (23 : Nat) ({ cls := "EchoLine", name := "isWithin", desc := "(III)Z" } : Jvm.MethodName) "EchoLine") ∈ WN := xWN (List.mem_of_getElem? (i := 220) (by decide +kernel)) (by decide +kernel)
theorem wd_60 : (Jvm.Cond.initialized "EchoLine") ∈ WG := xWG (List.mem_of_getElem? (i := 60) (by decide +kernel)) (by decide +kernel)
theorem wd_222 : (Jvm.Cond.code ({ cls := "EchoLine", name := "isWithin", desc := "(III)Z" } : Jvm.MethodName) prog_1_method_30_code (3 : Nat) (Option.some Jvm.ClassFile.FieldType.boolean)) ∈ WG := xWG (List.mem_of_getElem? (i := 222) (by decide +kernel)) (by decide +kernel)
theorem ck_X4_23 : xCaN RX4 23 yX5_isWithin "EchoLine" cX5_isWithin 3 (some .boolean) (.static yX5_isWithin) 3 := ⟨⟨wn_220, wd_221, wd_60, wd_222⟩, by decide +kernel, by decide +kernel, by decide +kernel⟩
theorem wd_223 : (Jvm.Cond.methodLink "EchoLine$Text" (27 : Nat) ({ cls := "EchoLine$Text", name := "isDigit", desc := "(C)Z" } : Jvm.MethodName)) ∈ WG := xWG (List.mem_of_getElem? (i := 223) (by decide +kernel)) (by decide +kernel)
theorem wd_224 : (Jvm.Cond.static ({ cls := "EchoLine$Text", name := "isDigit", desc := "(C)Z" } : Jvm.MethodName)) ∈ WG := xWG (List.mem_of_getElem? (i := 224) (by decide +kernel)) (by decide +kernel)
theorem wd_225 : (Jvm.Cond.code ({ cls := "EchoLine$Text", name := "isDigit", desc := "(C)Z" } : Jvm.MethodName) prog_6_method_9_code (1 : Nat) (Option.some Jvm.ClassFile.FieldType.boolean)) ∈ WG := xWG (List.mem_of_getElem? (i := 225) (by decide +kernel)) (by decide +kernel)
theorem ck_X4_27 : xCaS RX4 27 yX4_isDigit cX4_isDigit 1 (some .boolean) 1 := ⟨⟨wd_223, wd_224, wd_64, wd_225⟩, by decide +kernel, by decide +kernel, by decide +kernel⟩
theorem wd_226 : (Jvm.Cond.methodLink "EchoLine$Text" (31 : Nat) ({ cls := "EchoLine$Text", name := "behindWord", desc := "(C)I" } : Jvm.MethodName)) ∈ WG := xWG (List.mem_of_getElem? (i := 226) (by decide +kernel)) (by decide +kernel)
theorem wd_227 : (Jvm.Cond.static ({ cls := "EchoLine$Text", name := "behindWord", desc := "(C)I" } : Jvm.MethodName)) ∈ WG := xWG (List.mem_of_getElem? (i := 227) (by decide +kernel)) (by decide +kernel)
theorem wd_228 : (Jvm.Cond.code ({ cls := "EchoLine$Text", name := "behindWord", desc := "(C)I" } : Jvm.MethodName) prog_6_method_6_code (1 : Nat) (Option.some Jvm.ClassFile.FieldType.int)) ∈ WG := xWG (List.mem_of_getElem? (i := 228) (by decide +kernel)) (by decide +kernel)
theorem ck_X4_31 : xCaS RX4 31 yX4_behindWord cX4_behindWord 1 (some .int) 1 := ⟨⟨wd_226, wd_227, wd_64, wd_228⟩, by decide +kernel, by decide +kernel, by decide +kernel⟩
theorem wd_232 : (Jvm.Cond.methodLink "EchoLine$Text" (35 : Nat) ({ cls := "EchoLine$Text", name := "pauseDigit", desc := "(C)I" } : Jvm.MethodName)) ∈ WG := xWG (List.mem_of_getElem? (i := 232) (by decide +kernel)) (by decide +kernel)
theorem wd_233 : (Jvm.Cond.static ({ cls := "EchoLine$Text", name := "pauseDigit", desc := "(C)I" } : Jvm.MethodName)) ∈ WG := xWG (List.mem_of_getElem? (i := 233) (by decide +kernel)) (by decide +kernel)
theorem wd_234 : (Jvm.Cond.code ({ cls := "EchoLine$Text", name := "pauseDigit", desc := "(C)I" } : Jvm.MethodName) prog_6_method_8_code (1 : Nat) (Option.some Jvm.ClassFile.FieldType.int)) ∈ WG := xWG (List.mem_of_getElem? (i := 234) (by decide +kernel)) (by decide +kernel)
theorem ck_X4_35 : xCaS RX4 35 yX4_pauseDigit cX4_pauseDigit 1 (some .int) 1 := ⟨⟨wd_232, wd_233, wd_64, wd_234⟩, by decide +kernel, by decide +kernel, by decide +kernel⟩
theorem wd_229 : (Jvm.Cond.methodLink "EchoLine$Text" (38 : Nat) ({ cls := "EchoLine$Text", name := "behindPart", desc := "(C)I" } : Jvm.MethodName)) ∈ WG := xWG (List.mem_of_getElem? (i := 229) (by decide +kernel)) (by decide +kernel)
theorem wd_230 : (Jvm.Cond.static ({ cls := "EchoLine$Text", name := "behindPart", desc := "(C)I" } : Jvm.MethodName)) ∈ WG := xWG (List.mem_of_getElem? (i := 230) (by decide +kernel)) (by decide +kernel)
theorem wd_231 : (Jvm.Cond.code ({ cls := "EchoLine$Text", name := "behindPart", desc := "(C)I" } : Jvm.MethodName) prog_6_method_7_code (1 : Nat) (Option.some Jvm.ClassFile.FieldType.int)) ∈ WG := xWG (List.mem_of_getElem? (i := 231) (by decide +kernel)) (by decide +kernel)
theorem ck_X4_38 : xCaS RX4 38 yX4_behindPart cX4_behindPart 1 (some .int) 1 := ⟨⟨wd_229, wd_230, wd_64, wd_231⟩, by decide +kernel, by decide +kernel, by decide +kernel⟩
theorem wd_612 : (Jvm.Cond.methodLink "EchoLine$Text" (41 : Nat) ({ cls := "EchoLine$Text", name := "partHappens", desc := "(LEchoLine$Chamber;II)Z" } : Jvm.MethodName)) ∈ WG := xWG (List.mem_of_getElem? (i := 612) (by decide +kernel)) (by decide +kernel)
theorem wd_614 : (Jvm.Cond.instanceMethod ({ cls := "EchoLine$Text", name := "partHappens", desc := "(LEchoLine$Chamber;II)Z" } : Jvm.MethodName)) ∈ WG := xWG (List.mem_of_getElem? (i := 614) (by decide +kernel)) (by decide +kernel)
theorem wd_20 : (Jvm.Cond.selects "EchoLine$Text" ({ cls := "EchoLine$Text", name := "partHappens", desc := "(LEchoLine$Chamber;II)Z" } : Jvm.MethodName) ({ cls := "EchoLine$Text", name := "partHappens", desc := "(LEchoLine$Chamber;II)Z" } : Jvm.MethodName)) ∈ WG := xWG (List.mem_of_getElem? (i := 20) (by decide +kernel)) (by decide +kernel)
theorem wd_615 : (Jvm.Cond.code ({ cls := "EchoLine$Text", name := "partHappens", desc := "(LEchoLine$Chamber;II)Z" } : Jvm.MethodName) prog_6_method_11_code (4 : Nat) (Option.some Jvm.ClassFile.FieldType.boolean)) ∈ WG := xWG (List.mem_of_getElem? (i := 615) (by decide +kernel)) (by decide +kernel)
theorem ck_X4_41 : xCal RX4 41 RX4 yX4_partHappens cX4_partHappens 4 (some .boolean) 3 := ⟨⟨wd_612, wd_614, wd_20, wd_64, wd_615⟩, rfl, by decide +kernel, by decide +kernel, by decide +kernel⟩
theorem wd_616 : (Jvm.Cond.methodLink "EchoLine$Text" (45 : Nat) ({ cls := "EchoLine$Text", name := "restIn", desc := "(LEchoLine$Chamber;II)Z" } : Jvm.MethodName)) ∈ WG := xWG (List.mem_of_getElem? (i := 616) (by decide +kernel)) (by decide +kernel)
theorem wd_618 : (Jvm.Cond.instanceMethod ({ cls := "EchoLine$Text", name := "restIn", desc := "(LEchoLine$Chamber;II)Z" } : Jvm.MethodName)) ∈ WG := xWG (List.mem_of_getElem? (i := 618) (by decide +kernel)) (by decide +kernel)
theorem wd_21 : (Jvm.Cond.selects "EchoLine$Text" ({ cls := "EchoLine$Text", name := "restIn", desc := "(LEchoLine$Chamber;II)Z" } : Jvm.MethodName) ({ cls := "EchoLine$Text", name := "restIn", desc := "(LEchoLine$Chamber;II)Z" } : Jvm.MethodName)) ∈ WG := xWG (List.mem_of_getElem? (i := 21) (by decide +kernel)) (by decide +kernel)
theorem wd_619 : (Jvm.Cond.code ({ cls := "EchoLine$Text", name := "restIn", desc := "(LEchoLine$Chamber;II)Z" } : Jvm.MethodName) prog_6_method_12_code (6 : Nat) (Option.some Jvm.ClassFile.FieldType.boolean)) ∈ WG := xWG (List.mem_of_getElem? (i := 619) (by decide +kernel)) (by decide +kernel)
theorem ck_X4_45 : xCal RX4 45 RX4 yX4_restIn cX4_restIn 6 (some .boolean) 3 := ⟨⟨wd_616, wd_618, wd_21, wd_64, wd_619⟩, rfl, by decide +kernel, by decide +kernel, by decide +kernel⟩
theorem wd_622 : (Jvm.Cond.methodLink "EchoLine$Text" (48 : Nat) ({ cls := "EchoLine$Text", name := "speakIn", desc := "(LEchoLine$Chamber;II)Z" } : Jvm.MethodName)) ∈ WG := xWG (List.mem_of_getElem? (i := 622) (by decide +kernel)) (by decide +kernel)
theorem wd_624 : (Jvm.Cond.instanceMethod ({ cls := "EchoLine$Text", name := "speakIn", desc := "(LEchoLine$Chamber;II)Z" } : Jvm.MethodName)) ∈ WG := xWG (List.mem_of_getElem? (i := 624) (by decide +kernel)) (by decide +kernel)
theorem wd_22 : (Jvm.Cond.selects "EchoLine$Text" ({ cls := "EchoLine$Text", name := "speakIn", desc := "(LEchoLine$Chamber;II)Z" } : Jvm.MethodName) ({ cls := "EchoLine$Text", name := "speakIn", desc := "(LEchoLine$Chamber;II)Z" } : Jvm.MethodName)) ∈ WG := xWG (List.mem_of_getElem? (i := 22) (by decide +kernel)) (by decide +kernel)
theorem wd_625 : (Jvm.Cond.code ({ cls := "EchoLine$Text", name := "speakIn", desc := "(LEchoLine$Chamber;II)Z" } : Jvm.MethodName) prog_6_method_13_code (10 : Nat) (Option.some Jvm.ClassFile.FieldType.boolean)) ∈ WG := xWG (List.mem_of_getElem? (i := 625) (by decide +kernel)) (by decide +kernel)
theorem ck_X4_48 : xCal RX4 48 RX4 yX4_speakIn cX4_speakIn 10 (some .boolean) 3 := ⟨⟨wd_622, wd_624, wd_22, wd_64, wd_625⟩, rfl, by decide +kernel, by decide +kernel, by decide +kernel⟩
theorem wd_620 : (Jvm.Cond.methodLink "EchoLine$Text" (51 : Nat) ({ cls := "EchoLine$Chamber", name := "canRest", desc := "(I)Z" } : Jvm.MethodName)) ∈ WG := xWG (List.mem_of_getElem? (i := 620) (by decide +kernel)) (by decide +kernel)
theorem wd_558 : (Jvm.Cond.instanceMethod ({ cls := "EchoLine$Chamber", name := "canRest", desc := "(I)Z" } : Jvm.MethodName)) ∈ WG := xWG (List.mem_of_getElem? (i := 558) (by decide +kernel)) (by decide +kernel)
theorem wd_559 : (Jvm.Cond.selects "EchoLine$Chamber" ({ cls := "EchoLine$Chamber", name := "canRest", desc := "(I)Z" } : Jvm.MethodName) ({ cls := "EchoLine$Chamber", name := "canRest", desc := "(I)Z" } : Jvm.MethodName)) ∈ WG := xWG (List.mem_of_getElem? (i := 559) (by decide +kernel)) (by decide +kernel)
theorem wd_560 : (Jvm.Cond.code ({ cls := "EchoLine$Chamber", name := "canRest", desc := "(I)Z" } : Jvm.MethodName) prog_2_method_5_code (2 : Nat) (Option.some Jvm.ClassFile.FieldType.boolean)) ∈ WG := xWG (List.mem_of_getElem? (i := 560) (by decide +kernel)) (by decide +kernel)
theorem ck_X4_51 : xCal RX4 51 RX0 yX0_canRest cX0_canRest 2 (some .boolean) 1 := ⟨⟨wd_620, wd_558, wd_559, wd_61, wd_560⟩, rfl, by decide +kernel, by decide +kernel, by decide +kernel⟩
theorem wd_621 : (Jvm.Cond.methodLink "EchoLine$Text" (57 : Nat) ({ cls := "EchoLine$Chamber", name := "rest", desc := "(I)V" } : Jvm.MethodName)) ∈ WG := xWG (List.mem_of_getElem? (i := 621) (by decide +kernel)) (by decide +kernel)
theorem wd_563 : (Jvm.Cond.instanceMethod ({ cls := "EchoLine$Chamber", name := "rest", desc := "(I)V" } : Jvm.MethodName)) ∈ WG := xWG (List.mem_of_getElem? (i := 563) (by decide +kernel)) (by decide +kernel)
theorem wd_564 : (Jvm.Cond.selects "EchoLine$Chamber" ({ cls := "EchoLine$Chamber", name := "rest", desc := "(I)V" } : Jvm.MethodName) ({ cls := "EchoLine$Chamber", name := "rest", desc := "(I)V" } : Jvm.MethodName)) ∈ WG := xWG (List.mem_of_getElem? (i := 564) (by decide +kernel)) (by decide +kernel)
theorem wd_565 : (Jvm.Cond.code ({ cls := "EchoLine$Chamber", name := "rest", desc := "(I)V" } : Jvm.MethodName) prog_2_method_6_code (3 : Nat) (Option.none : Option Jvm.ClassFile.FieldType)) ∈ WG := xWG (List.mem_of_getElem? (i := 565) (by decide +kernel)) (by decide +kernel)
theorem ck_X4_57 : xCal RX4 57 RX0 yX0_rest cX0_rest 3 none 1 := ⟨⟨wd_621, wd_563, wd_564, wd_61, wd_565⟩, rfl, by decide +kernel, by decide +kernel, by decide +kernel⟩
theorem wd_626 : (Jvm.Cond.methodLink "EchoLine$Text" (61 : Nat) ({ cls := "EchoLine$Chamber", name := "canSpeak", desc := "()Z" } : Jvm.MethodName)) ∈ WG := xWG (List.mem_of_getElem? (i := 626) (by decide +kernel)) (by decide +kernel)
theorem wd_510 : (Jvm.Cond.instanceMethod ({ cls := "EchoLine$Chamber", name := "canSpeak", desc := "()Z" } : Jvm.MethodName)) ∈ WG := xWG (List.mem_of_getElem? (i := 510) (by decide +kernel)) (by decide +kernel)
theorem wd_511 : (Jvm.Cond.selects "EchoLine$Chamber" ({ cls := "EchoLine$Chamber", name := "canSpeak", desc := "()Z" } : Jvm.MethodName) ({ cls := "EchoLine$Chamber", name := "canSpeak", desc := "()Z" } : Jvm.MethodName)) ∈ WG := xWG (List.mem_of_getElem? (i := 511) (by decide +kernel)) (by decide +kernel)
theorem wd_512 : (Jvm.Cond.code ({ cls := "EchoLine$Chamber", name := "canSpeak", desc := "()Z" } : Jvm.MethodName) prog_2_method_3_code (1 : Nat) (Option.some Jvm.ClassFile.FieldType.boolean)) ∈ WG := xWG (List.mem_of_getElem? (i := 512) (by decide +kernel)) (by decide +kernel)
theorem ck_X4_61 : xCal RX4 61 RX0 yX0_canSpeak cX0_canSpeak 1 (some .boolean) 0 := ⟨⟨wd_626, wd_510, wd_511, wd_61, wd_512⟩, rfl, by decide +kernel, by decide +kernel, by decide +kernel⟩
theorem wd_627 : (Jvm.Cond.methodLink "EchoLine$Text" (65 : Nat) ({ cls := "EchoLine$Chamber", name := "speak", desc := "(III)I" } : Jvm.MethodName)) ∈ WG := xWG (List.mem_of_getElem? (i := 627) (by decide +kernel)) (by decide +kernel)
theorem wd_540 : (Jvm.Cond.instanceMethod ({ cls := "EchoLine$Chamber", name := "speak", desc := "(III)I" } : Jvm.MethodName)) ∈ WG := xWG (List.mem_of_getElem? (i := 540) (by decide +kernel)) (by decide +kernel)
theorem wd_541 : (Jvm.Cond.selects "EchoLine$Chamber" ({ cls := "EchoLine$Chamber", name := "speak", desc := "(III)I" } : Jvm.MethodName) ({ cls := "EchoLine$Chamber", name := "speak", desc := "(III)I" } : Jvm.MethodName)) ∈ WG := xWG (List.mem_of_getElem? (i := 541) (by decide +kernel)) (by decide +kernel)
theorem wd_542 : (Jvm.Cond.code ({ cls := "EchoLine$Chamber", name := "speak", desc := "(III)I" } : Jvm.MethodName) prog_2_method_4_code (7 : Nat) (Option.some Jvm.ClassFile.FieldType.int)) ∈ WG := xWG (List.mem_of_getElem? (i := 542) (by decide +kernel)) (by decide +kernel)
theorem ck_X4_65 : xCal RX4 65 RX0 yX0_speak cX0_speak 7 (some .int) 3 := ⟨⟨wd_627, wd_540, wd_541, wd_61, wd_542⟩, rfl, by decide +kernel, by decide +kernel, by decide +kernel⟩
theorem wd_81 : (Jvm.Cond.methodLink "EchoLine" (1 : Nat) ({ cls := "java/lang/Object", name := "<init>", desc := "()V" } : Jvm.MethodName)) ∈ WG := xWG (List.mem_of_getElem? (i := 81) (by decide +kernel)) (by decide +kernel)
theorem wd_84 : (Jvm.Cond.classLink "EchoLine" (7 : Nat) "EchoLine$Chamber") ∈ WG := xWG (List.mem_of_getElem? (i := 84) (by decide +kernel)) (by decide +kernel)
theorem wn_86 : (Jvm.Cond.methodLinkNest "EchoLine" (9 : Nat) ({ cls := "EchoLine$Chamber", name := "<init>", desc := "()V" } : Jvm.MethodName) "EchoLine") ∈ WN := xWN (List.mem_of_getElem? (i := 86) (by decide +kernel)) (by decide +kernel)
theorem ck_X5_9 : xCaN RX5 9 yX0_init "EchoLine" cX0_init 1 none (.instanceMethod yX0_init) 0 := ⟨⟨wn_86, wd_87, wd_61, wd_88⟩, by decide +kernel, by decide +kernel, by decide +kernel⟩
theorem wd_189 : (Jvm.Cond.fieldLink "EchoLine" (10 : Nat) "EchoLine" "now" "LEchoLine$Chamber;") ∈ WG := xWG (List.mem_of_getElem? (i := 189) (by decide +kernel)) (by decide +kernel)
theorem fk_X5_10 : xFld RX5 10 5 5 0 2 := ⟨by decide, RX5, TX5, rfl, by decide, rfl, wd_189⟩
theorem wd_147 : (Jvm.Cond.classLink "EchoLine" (16 : Nat) "EchoLine$Report") ∈ WG := xWG (List.mem_of_getElem? (i := 147) (by decide +kernel)) (by decide +kernel)
theorem wd_148 : (Jvm.Cond.instantiable "EchoLine$Report" (1 : Nat)) ∈ WG := xWG (List.mem_of_getElem? (i := 148) (by decide +kernel)) (by decide +kernel)
theorem wd_149 : (Jvm.Cond.methodLink "EchoLine" (18 : Nat) ({ cls := "EchoLine$Report", name := "<init>", desc := "(LEchoLine$Chamber;)V" } : Jvm.MethodName)) ∈ WG := xWG (List.mem_of_getElem? (i := 149) (by decide +kernel)) (by decide +kernel)
theorem wd_150 : (Jvm.Cond.instanceMethod ({ cls := "EchoLine$Report", name := "<init>", desc := "(LEchoLine$Chamber;)V" } : Jvm.MethodName)) ∈ WG := xWG (List.mem_of_getElem? (i := 150) (by decide +kernel)) (by decide +kernel)
theorem wd_151 : (Jvm.Cond.code ({ cls := "EchoLine$Report", name := "<init>", desc := "(LEchoLine$Chamber;)V" } : Jvm.MethodName) prog_5_method_1_code (2 : Nat) (Option.none : Option Jvm.ClassFile.FieldType)) ∈ WG := xWG (List.mem_of_getElem? (i := 151) (by decide +kernel)) (by decide +kernel)
theorem ck_X5_18 : xCaI RX5 18 yX3_init cX3_init 2 1 := ⟨⟨wd_149, wd_150, wd_62, wd_151⟩, rfl, by decide +kernel, by decide +kernel, by decide +kernel⟩
theorem wd_190 : (Jvm.Cond.fieldLink "EchoLine" (21 : Nat) "EchoLine" "report" "LEchoLine$Report;") ∈ WG := xWG (List.mem_of_getElem? (i := 190) (by decide +kernel)) (by decide +kernel)
theorem fk_X5_21 : xFld RX5 21 5 5 1 2 := ⟨by decide, RX5, TX5, rfl, by decide, rfl, wd_190⟩
theorem wd_157 : (Jvm.Cond.classLink "EchoLine" (25 : Nat) "EchoLine$History") ∈ WG := xWG (List.mem_of_getElem? (i := 157) (by decide +kernel)) (by decide +kernel)
theorem wd_158 : (Jvm.Cond.instantiable "EchoLine$History" (2 : Nat)) ∈ WG := xWG (List.mem_of_getElem? (i := 158) (by decide +kernel)) (by decide +kernel)
theorem wd_160 : (Jvm.Cond.instanceMethod ({ cls := "EchoLine$History", name := "<init>", desc := "()V" } : Jvm.MethodName)) ∈ WG := xWG (List.mem_of_getElem? (i := 160) (by decide +kernel)) (by decide +kernel)
theorem wn_159 : (Jvm.Cond.methodLinkNest "EchoLine" (27 : Nat) ({ cls := "EchoLine$History", name := "<init>", desc := "()V" } : Jvm.MethodName) "EchoLine") ∈ WN := xWN (List.mem_of_getElem? (i := 159) (by decide +kernel)) (by decide +kernel)
theorem wd_161 : (Jvm.Cond.code ({ cls := "EchoLine$History", name := "<init>", desc := "()V" } : Jvm.MethodName) prog_4_method_1_code (1 : Nat) (Option.none : Option Jvm.ClassFile.FieldType)) ∈ WG := xWG (List.mem_of_getElem? (i := 161) (by decide +kernel)) (by decide +kernel)
theorem ck_X5_27 : xCaN RX5 27 yX2_init "EchoLine" cX2_init 1 none (.instanceMethod yX2_init) 0 := ⟨⟨wn_159, wd_160, wd_63, wd_161⟩, by decide +kernel, by decide +kernel, by decide +kernel⟩
theorem wd_191 : (Jvm.Cond.fieldLink "EchoLine" (28 : Nat) "EchoLine" "history" "LEchoLine$History;") ∈ WG := xWG (List.mem_of_getElem? (i := 191) (by decide +kernel)) (by decide +kernel)
theorem fk_X5_28 : xFld RX5 28 5 5 2 2 := ⟨by decide, RX5, TX5, rfl, by decide, rfl, wd_191⟩
theorem wd_173 : (Jvm.Cond.classLink "EchoLine" (32 : Nat) "EchoLine$Text") ∈ WG := xWG (List.mem_of_getElem? (i := 173) (by decide +kernel)) (by decide +kernel)
theorem wd_174 : (Jvm.Cond.instantiable "EchoLine$Text" (2 : Nat)) ∈ WG := xWG (List.mem_of_getElem? (i := 174) (by decide +kernel)) (by decide +kernel)
theorem wd_176 : (Jvm.Cond.instanceMethod ({ cls := "EchoLine$Text", name := "<init>", desc := "()V" } : Jvm.MethodName)) ∈ WG := xWG (List.mem_of_getElem? (i := 176) (by decide +kernel)) (by decide +kernel)
theorem wn_175 : (Jvm.Cond.methodLinkNest "EchoLine" (34 : Nat) ({ cls := "EchoLine$Text", name := "<init>", desc := "()V" } : Jvm.MethodName) "EchoLine") ∈ WN := xWN (List.mem_of_getElem? (i := 175) (by decide +kernel)) (by decide +kernel)
theorem wd_177 : (Jvm.Cond.code ({ cls := "EchoLine$Text", name := "<init>", desc := "()V" } : Jvm.MethodName) prog_6_method_1_code (1 : Nat) (Option.none : Option Jvm.ClassFile.FieldType)) ∈ WG := xWG (List.mem_of_getElem? (i := 177) (by decide +kernel)) (by decide +kernel)
theorem ck_X5_34 : xCaN RX5 34 yX4_init "EchoLine" cX4_init 1 none (.instanceMethod yX4_init) 0 := ⟨⟨wn_175, wd_176, wd_64, wd_177⟩, by decide +kernel, by decide +kernel, by decide +kernel⟩
theorem wd_192 : (Jvm.Cond.fieldLink "EchoLine" (35 : Nat) "EchoLine" "text" "LEchoLine$Text;") ∈ WG := xWG (List.mem_of_getElem? (i := 192) (by decide +kernel)) (by decide +kernel)
theorem fk_X5_35 : xFld RX5 35 5 5 3 2 := ⟨by decide, RX5, TX5, rfl, by decide, rfl, wd_192⟩
theorem wd_418 : (Jvm.Cond.methodLink "EchoLine" (39 : Nat) ({ cls := "EchoLine", name := "requireSeat", desc := "(I)V" } : Jvm.MethodName)) ∈ WG := xWG (List.mem_of_getElem? (i := 418) (by decide +kernel)) (by decide +kernel)
theorem wd_419 : (Jvm.Cond.static ({ cls := "EchoLine", name := "requireSeat", desc := "(I)V" } : Jvm.MethodName)) ∈ WG := xWG (List.mem_of_getElem? (i := 419) (by decide +kernel)) (by decide +kernel)
theorem wd_420 : (Jvm.Cond.code ({ cls := "EchoLine", name := "requireSeat", desc := "(I)V" } : Jvm.MethodName) prog_1_method_31_code (1 : Nat) (Option.none : Option Jvm.ClassFile.FieldType)) ∈ WG := xWG (List.mem_of_getElem? (i := 420) (by decide +kernel)) (by decide +kernel)
theorem ck_X5_39 : xCaS RX5 39 yX5_requireSeat cX5_requireSeat 1 none 1 := ⟨⟨wd_418, wd_419, wd_60, wd_420⟩, by decide +kernel, by decide +kernel, by decide +kernel⟩
theorem wd_421 : (Jvm.Cond.methodLink "EchoLine" (43 : Nat) ({ cls := "EchoLine", name := "isWithin", desc := "(III)Z" } : Jvm.MethodName)) ∈ WG := xWG (List.mem_of_getElem? (i := 421) (by decide +kernel)) (by decide +kernel)
theorem ck_X5_43 : xCaS RX5 43 yX5_isWithin cX5_isWithin 3 (some .boolean) 3 := ⟨⟨wd_421, wd_221, wd_60, wd_222⟩, by decide +kernel, by decide +kernel, by decide +kernel⟩
theorem wd_490 : (Jvm.Cond.methodLink "EchoLine" (47 : Nat) ({ cls := "EchoLine", name := "require", desc := "(Z)V" } : Jvm.MethodName)) ∈ WG := xWG (List.mem_of_getElem? (i := 490) (by decide +kernel)) (by decide +kernel)
theorem wd_491 : (Jvm.Cond.static ({ cls := "EchoLine", name := "require", desc := "(Z)V" } : Jvm.MethodName)) ∈ WG := xWG (List.mem_of_getElem? (i := 491) (by decide +kernel)) (by decide +kernel)
theorem wd_492 : (Jvm.Cond.code ({ cls := "EchoLine", name := "require", desc := "(Z)V" } : Jvm.MethodName) prog_1_method_32_code (1 : Nat) (Option.none : Option Jvm.ClassFile.FieldType)) ∈ WG := xWG (List.mem_of_getElem? (i := 492) (by decide +kernel)) (by decide +kernel)
theorem ck_X5_47 : xCaS RX5 47 yX5_require cX5_require 1 none 1 := ⟨⟨wd_490, wd_491, wd_60, wd_492⟩, by decide +kernel, by decide +kernel, by decide +kernel⟩
theorem wd_509 : (Jvm.Cond.methodLink "EchoLine" (51 : Nat) ({ cls := "EchoLine$Chamber", name := "canSpeak", desc := "()Z" } : Jvm.MethodName)) ∈ WG := xWG (List.mem_of_getElem? (i := 509) (by decide +kernel)) (by decide +kernel)
theorem ck_X5_51 : xCal RX5 51 RX0 yX0_canSpeak cX0_canSpeak 1 (some .boolean) 0 := ⟨⟨wd_509, wd_510, wd_511, wd_61, wd_512⟩, rfl, by decide +kernel, by decide +kernel, by decide +kernel⟩
theorem wd_529 : (Jvm.Cond.methodLink "EchoLine" (62 : Nat) ({ cls := "EchoLine$History", name := "save", desc := "(LEchoLine$Chamber;)V" } : Jvm.MethodName)) ∈ WG := xWG (List.mem_of_getElem? (i := 529) (by decide +kernel)) (by decide +kernel)
theorem wd_530 : (Jvm.Cond.instanceMethod ({ cls := "EchoLine$History", name := "save", desc := "(LEchoLine$Chamber;)V" } : Jvm.MethodName)) ∈ WG := xWG (List.mem_of_getElem? (i := 530) (by decide +kernel)) (by decide +kernel)
theorem wd_531 : (Jvm.Cond.selects "EchoLine$History" ({ cls := "EchoLine$History", name := "save", desc := "(LEchoLine$Chamber;)V" } : Jvm.MethodName) ({ cls := "EchoLine$History", name := "save", desc := "(LEchoLine$Chamber;)V" } : Jvm.MethodName)) ∈ WG := xWG (List.mem_of_getElem? (i := 531) (by decide +kernel)) (by decide +kernel)
theorem wd_532 : (Jvm.Cond.code ({ cls := "EchoLine$History", name := "save", desc := "(LEchoLine$Chamber;)V" } : Jvm.MethodName) prog_4_method_2_code (3 : Nat) (Option.none : Option Jvm.ClassFile.FieldType)) ∈ WG := xWG (List.mem_of_getElem? (i := 532) (by decide +kernel)) (by decide +kernel)
theorem ck_X5_62 : xCal RX5 62 RX2 yX2_save cX2_save 3 none 1 := ⟨⟨wd_529, wd_530, wd_531, wd_63, wd_532⟩, rfl, by decide +kernel, by decide +kernel, by decide +kernel⟩
theorem wd_539 : (Jvm.Cond.methodLink "EchoLine" (65 : Nat) ({ cls := "EchoLine$Chamber", name := "speak", desc := "(III)I" } : Jvm.MethodName)) ∈ WG := xWG (List.mem_of_getElem? (i := 539) (by decide +kernel)) (by decide +kernel)
theorem ck_X5_65 : xCal RX5 65 RX0 yX0_speak cX0_speak 7 (some .int) 3 := ⟨⟨wd_539, wd_540, wd_541, wd_61, wd_542⟩, rfl, by decide +kernel, by decide +kernel, by decide +kernel⟩
theorem wd_557 : (Jvm.Cond.methodLink "EchoLine" (69 : Nat) ({ cls := "EchoLine$Chamber", name := "canRest", desc := "(I)Z" } : Jvm.MethodName)) ∈ WG := xWG (List.mem_of_getElem? (i := 557) (by decide +kernel)) (by decide +kernel)
theorem ck_X5_69 : xCal RX5 69 RX0 yX0_canRest cX0_canRest 2 (some .boolean) 1 := ⟨⟨wd_557, wd_558, wd_559, wd_61, wd_560⟩, rfl, by decide +kernel, by decide +kernel, by decide +kernel⟩
theorem wd_562 : (Jvm.Cond.methodLink "EchoLine" (75 : Nat) ({ cls := "EchoLine$Chamber", name := "rest", desc := "(I)V" } : Jvm.MethodName)) ∈ WG := xWG (List.mem_of_getElem? (i := 562) (by decide +kernel)) (by decide +kernel)
theorem ck_X5_75 : xCal RX5 75 RX0 yX0_rest cX0_rest 3 none 1 := ⟨⟨wd_562, wd_563, wd_564, wd_61, wd_565⟩, rfl, by decide +kernel, by decide +kernel, by decide +kernel⟩
theorem wd_93 : (Jvm.Cond.fieldLink "EchoLine" (78 : Nat) "EchoLine$Chamber" "beat" "I") ∈ WG := xWG (List.mem_of_getElem? (i := 93) (by decide +kernel)) (by decide +kernel)
theorem fk_X5_78 : xFld RX5 78 0 12 0 0 := ⟨by decide, RX0, TX0, rfl, by decide, rfl, wd_93⟩
theorem wd_99 : (Jvm.Cond.fieldLink "EchoLine" (82 : Nat) "EchoLine$Chamber" "walls" "[I") ∈ WG := xWG (List.mem_of_getElem? (i := 99) (by decide +kernel)) (by decide +kernel)
theorem fk_X5_82 : xFld RX5 82 0 12 2 2 := ⟨by decide, RX0, TX0, rfl, by decide, rfl, wd_99⟩
theorem wd_581 : (Jvm.Cond.fieldLink "EchoLine" (91 : Nat) "EchoLine" "LOWEST_VALUE" "[I") ∈ WG := xWG (List.mem_of_getElem? (i := 581) (by decide +kernel)) (by decide +kernel)
theorem wd_583 : (Jvm.Cond.fieldLink "EchoLine" (94 : Nat) "EchoLine" "HIGHEST_VALUE" "[I") ∈ WG := xWG (List.mem_of_getElem? (i := 583) (by decide +kernel)) (by decide +kernel)
theorem wd_102 : (Jvm.Cond.fieldLink "EchoLine" (97 : Nat) "EchoLine$Chamber" "settings" "[I") ∈ WG := xWG (List.mem_of_getElem? (i := 102) (by decide +kernel)) (by decide +kernel)
theorem fk_X5_97 : xFld RX5 97 0 12 3 2 := ⟨by decide, RX0, TX0, rfl, by decide, rfl, wd_102⟩
theorem wd_180 : (Jvm.Cond.fieldLink "EchoLine" (100 : Nat) "EchoLine$Text" "length" "I") ∈ WG := xWG (List.mem_of_getElem? (i := 180) (by decide +kernel)) (by decide +kernel)
theorem fk_X5_100 : xFld RX5 100 4 2 0 0 := ⟨by decide, RX4, TX4, rfl, by decide, rfl, wd_180⟩
theorem wd_593 : (Jvm.Cond.methodLink "EchoLine" (105 : Nat) ({ cls := "EchoLine$Text", name := "add", desc := "(C)V" } : Jvm.MethodName)) ∈ WG := xWG (List.mem_of_getElem? (i := 593) (by decide +kernel)) (by decide +kernel)
theorem wd_594 : (Jvm.Cond.instanceMethod ({ cls := "EchoLine$Text", name := "add", desc := "(C)V" } : Jvm.MethodName)) ∈ WG := xWG (List.mem_of_getElem? (i := 594) (by decide +kernel)) (by decide +kernel)
theorem wd_595 : (Jvm.Cond.selects "EchoLine$Text" ({ cls := "EchoLine$Text", name := "add", desc := "(C)V" } : Jvm.MethodName) ({ cls := "EchoLine$Text", name := "add", desc := "(C)V" } : Jvm.MethodName)) ∈ WG := xWG (List.mem_of_getElem? (i := 595) (by decide +kernel)) (by decide +kernel)
theorem wd_596 : (Jvm.Cond.code ({ cls := "EchoLine$Text", name := "add", desc := "(C)V" } : Jvm.MethodName) prog_6_method_2_code (2 : Nat) (Option.none : Option Jvm.ClassFile.FieldType)) ∈ WG := xWG (List.mem_of_getElem? (i := 596) (by decide +kernel)) (by decide +kernel)
theorem ck_X5_105 : xCal RX5 105 RX4 yX4_add cX4_add 2 none 1 := ⟨⟨wd_593, wd_594, wd_595, wd_64, wd_596⟩, rfl, by decide +kernel, by decide +kernel, by decide +kernel⟩
theorem wd_213 : (Jvm.Cond.methodLink "EchoLine" (109 : Nat) ({ cls := "EchoLine$Text", name := "errorPlace", desc := "()I" } : Jvm.MethodName)) ∈ WG := xWG (List.mem_of_getElem? (i := 213) (by decide +kernel)) (by decide +kernel)
theorem wd_214 : (Jvm.Cond.instanceMethod ({ cls := "EchoLine$Text", name := "errorPlace", desc := "()I" } : Jvm.MethodName)) ∈ WG := xWG (List.mem_of_getElem? (i := 214) (by decide +kernel)) (by decide +kernel)
theorem wd_215 : (Jvm.Cond.selects "EchoLine$Text" ({ cls := "EchoLine$Text", name := "errorPlace", desc := "()I" } : Jvm.MethodName) ({ cls := "EchoLine$Text", name := "errorPlace", desc := "()I" } : Jvm.MethodName)) ∈ WG := xWG (List.mem_of_getElem? (i := 215) (by decide +kernel)) (by decide +kernel)
theorem wd_216 : (Jvm.Cond.code ({ cls := "EchoLine$Text", name := "errorPlace", desc := "()I" } : Jvm.MethodName) prog_6_method_3_code (3 : Nat) (Option.some Jvm.ClassFile.FieldType.int)) ∈ WG := xWG (List.mem_of_getElem? (i := 216) (by decide +kernel)) (by decide +kernel)
theorem ck_X5_109 : xCal RX5 109 RX4 yX4_errorPlace cX4_errorPlace 3 (some .int) 0 := ⟨⟨wd_213, wd_214, wd_215, wd_64, wd_216⟩, rfl, by decide +kernel, by decide +kernel, by decide +kernel⟩
theorem wd_604 : (Jvm.Cond.methodLink "EchoLine" (113 : Nat) ({ cls := "EchoLine$Text", name := "isComplete", desc := "()Z" } : Jvm.MethodName)) ∈ WG := xWG (List.mem_of_getElem? (i := 604) (by decide +kernel)) (by decide +kernel)
theorem wd_605 : (Jvm.Cond.instanceMethod ({ cls := "EchoLine$Text", name := "isComplete", desc := "()Z" } : Jvm.MethodName)) ∈ WG := xWG (List.mem_of_getElem? (i := 605) (by decide +kernel)) (by decide +kernel)
theorem wd_606 : (Jvm.Cond.selects "EchoLine$Text" ({ cls := "EchoLine$Text", name := "isComplete", desc := "()Z" } : Jvm.MethodName) ({ cls := "EchoLine$Text", name := "isComplete", desc := "()Z" } : Jvm.MethodName)) ∈ WG := xWG (List.mem_of_getElem? (i := 606) (by decide +kernel)) (by decide +kernel)
theorem wd_607 : (Jvm.Cond.code ({ cls := "EchoLine$Text", name := "isComplete", desc := "()Z" } : Jvm.MethodName) prog_6_method_4_code (3 : Nat) (Option.some Jvm.ClassFile.FieldType.boolean)) ∈ WG := xWG (List.mem_of_getElem? (i := 607) (by decide +kernel)) (by decide +kernel)
theorem ck_X5_113 : xCal RX5 113 RX4 yX4_isComplete cX4_isComplete 3 (some .boolean) 0 := ⟨⟨wd_604, wd_605, wd_606, wd_64, wd_607⟩, rfl, by decide +kernel, by decide +kernel, by decide +kernel⟩
theorem wd_97 : (Jvm.Cond.fieldLink "EchoLine" (116 : Nat) "EchoLine$Chamber" "words" "I") ∈ WG := xWG (List.mem_of_getElem? (i := 97) (by decide +kernel)) (by decide +kernel)
theorem fk_X5_116 : xFld RX5 116 0 12 1 0 := ⟨by decide, RX0, TX0, rfl, by decide, rfl, wd_97⟩
theorem wd_608 : (Jvm.Cond.methodLink "EchoLine" (119 : Nat) ({ cls := "EchoLine$Text", name := "happenIn", desc := "(LEchoLine$Chamber;)V" } : Jvm.MethodName)) ∈ WG := xWG (List.mem_of_getElem? (i := 608) (by decide +kernel)) (by decide +kernel)
theorem wd_609 : (Jvm.Cond.instanceMethod ({ cls := "EchoLine$Text", name := "happenIn", desc := "(LEchoLine$Chamber;)V" } : Jvm.MethodName)) ∈ WG := xWG (List.mem_of_getElem? (i := 609) (by decide +kernel)) (by decide +kernel)
theorem wd_610 : (Jvm.Cond.selects "EchoLine$Text" ({ cls := "EchoLine$Text", name := "happenIn", desc := "(LEchoLine$Chamber;)V" } : Jvm.MethodName) ({ cls := "EchoLine$Text", name := "happenIn", desc := "(LEchoLine$Chamber;)V" } : Jvm.MethodName)) ∈ WG := xWG (List.mem_of_getElem? (i := 610) (by decide +kernel)) (by decide +kernel)
theorem wd_611 : (Jvm.Cond.code ({ cls := "EchoLine$Text", name := "happenIn", desc := "(LEchoLine$Chamber;)V" } : Jvm.MethodName) prog_6_method_10_code (4 : Nat) (Option.none : Option Jvm.ClassFile.FieldType)) ∈ WG := xWG (List.mem_of_getElem? (i := 611) (by decide +kernel)) (by decide +kernel)
theorem ck_X5_119 : xCal RX5 119 RX4 yX4_happenIn cX4_happenIn 4 none 1 := ⟨⟨wd_608, wd_609, wd_610, wd_64, wd_611⟩, rfl, by decide +kernel, by decide +kernel, by decide +kernel⟩
theorem wd_635 : (Jvm.Cond.methodLink "EchoLine" (122 : Nat) ({ cls := "EchoLine$History", name := "latest", desc := "()LEchoLine$Chamber;" } : Jvm.MethodName)) ∈ WG := xWG (List.mem_of_getElem? (i := 635) (by decide +kernel)) (by decide +kernel)
theorem wd_636 : (Jvm.Cond.instanceMethod ({ cls := "EchoLine$History", name := "latest", desc := "()LEchoLine$Chamber;" } : Jvm.MethodName)) ∈ WG := xWG (List.mem_of_getElem? (i := 636) (by decide +kernel)) (by decide +kernel)
theorem wd_637 : (Jvm.Cond.selects "EchoLine$History" ({ cls := "EchoLine$History", name := "latest", desc := "()LEchoLine$Chamber;" } : Jvm.MethodName) ({ cls := "EchoLine$History", name := "latest", desc := "()LEchoLine$Chamber;" } : Jvm.MethodName)) ∈ WG := xWG (List.mem_of_getElem? (i := 637) (by decide +kernel)) (by decide +kernel)
theorem wd_638 : (Jvm.Cond.code ({ cls := "EchoLine$History", name := "latest", desc := "()LEchoLine$Chamber;" } : Jvm.MethodName) prog_4_method_4_code (1 : Nat) (Option.some (Jvm.ClassFile.FieldType.object "EchoLine$Chamber"))) ∈ WG := xWG (List.mem_of_getElem? (i := 638) (by decide +kernel)) (by decide +kernel)
theorem ck_X5_122 : xCal RX5 122 RX2 yX2_latest cX2_latest 1 (some (.object "EchoLine$Chamber")) 0 := ⟨⟨wd_635, wd_636, wd_637, wd_63, wd_638⟩, rfl, by decide +kernel, by decide +kernel, by decide +kernel⟩
theorem wd_239 : (Jvm.Cond.methodLink "EchoLine" (128 : Nat) ({ cls := "EchoLine$Chamber", name := "become", desc := "(LEchoLine$Chamber;)V" } : Jvm.MethodName)) ∈ WG := xWG (List.mem_of_getElem? (i := 239) (by decide +kernel)) (by decide +kernel)
theorem ck_X5_128 : xCal RX5 128 RX0 yX0_become cX0_become 3 none 1 := ⟨⟨wd_239, wd_240, wd_241, wd_61, wd_242⟩, rfl, by decide +kernel, by decide +kernel, by decide +kernel⟩
theorem wd_640 : (Jvm.Cond.methodLink "EchoLine" (131 : Nat) ({ cls := "EchoLine$History", name := "dropLatest", desc := "()V" } : Jvm.MethodName)) ∈ WG := xWG (List.mem_of_getElem? (i := 640) (by decide +kernel)) (by decide +kernel)
theorem wd_641 : (Jvm.Cond.instanceMethod ({ cls := "EchoLine$History", name := "dropLatest", desc := "()V" } : Jvm.MethodName)) ∈ WG := xWG (List.mem_of_getElem? (i := 641) (by decide +kernel)) (by decide +kernel)
theorem wd_642 : (Jvm.Cond.selects "EchoLine$History" ({ cls := "EchoLine$History", name := "dropLatest", desc := "()V" } : Jvm.MethodName) ({ cls := "EchoLine$History", name := "dropLatest", desc := "()V" } : Jvm.MethodName)) ∈ WG := xWG (List.mem_of_getElem? (i := 642) (by decide +kernel)) (by decide +kernel)
theorem wd_643 : (Jvm.Cond.code ({ cls := "EchoLine$History", name := "dropLatest", desc := "()V" } : Jvm.MethodName) prog_4_method_5_code (1 : Nat) (Option.none : Option Jvm.ClassFile.FieldType)) ∈ WG := xWG (List.mem_of_getElem? (i := 643) (by decide +kernel)) (by decide +kernel)
theorem ck_X5_131 : xCal RX5 131 RX2 yX2_dropLatest cX2_dropLatest 1 none 0 := ⟨⟨wd_640, wd_641, wd_642, wd_63, wd_643⟩, rfl, by decide +kernel, by decide +kernel, by decide +kernel⟩
theorem wd_166 : (Jvm.Cond.fieldLink "EchoLine" (134 : Nat) "EchoLine$History" "size" "I") ∈ WG := xWG (List.mem_of_getElem? (i := 166) (by decide +kernel)) (by decide +kernel)
theorem fk_X5_134 : xFld RX5 134 2 2 0 0 := ⟨by decide, RX2, TX2, rfl, by decide, rfl, wd_166⟩
theorem wd_193 : (Jvm.Cond.fieldLink "EchoLine" (137 : Nat) "EchoLine" "snapshot" "LEchoLine$Chamber;") ∈ WG := xWG (List.mem_of_getElem? (i := 193) (by decide +kernel)) (by decide +kernel)
theorem fk_X5_137 : xFld RX5 137 5 5 4 2 := ⟨by decide, RX5, TX5, rfl, by decide, rfl, wd_193⟩
theorem wd_376 : (Jvm.Cond.methodLink "EchoLine" (142 : Nat) ({ cls := "EchoLine$Report", name := "ofWord", desc := "(II)I" } : Jvm.MethodName)) ∈ WG := xWG (List.mem_of_getElem? (i := 376) (by decide +kernel)) (by decide +kernel)
theorem wd_377 : (Jvm.Cond.instanceMethod ({ cls := "EchoLine$Report", name := "ofWord", desc := "(II)I" } : Jvm.MethodName)) ∈ WG := xWG (List.mem_of_getElem? (i := 377) (by decide +kernel)) (by decide +kernel)
theorem wd_378 : (Jvm.Cond.selects "EchoLine$Report" ({ cls := "EchoLine$Report", name := "ofWord", desc := "(II)I" } : Jvm.MethodName) ({ cls := "EchoLine$Report", name := "ofWord", desc := "(II)I" } : Jvm.MethodName)) ∈ WG := xWG (List.mem_of_getElem? (i := 378) (by decide +kernel)) (by decide +kernel)
theorem wd_379 : (Jvm.Cond.code ({ cls := "EchoLine$Report", name := "ofWord", desc := "(II)I" } : Jvm.MethodName) prog_5_method_2_code (3 : Nat) (Option.some Jvm.ClassFile.FieldType.int)) ∈ WG := xWG (List.mem_of_getElem? (i := 379) (by decide +kernel)) (by decide +kernel)
theorem ck_X5_142 : xCal RX5 142 RX3 yX3_ofWord cX3_ofWord 3 (some .int) 2 := ⟨⟨wd_376, wd_377, wd_378, wd_62, wd_379⟩, rfl, by decide +kernel, by decide +kernel, by decide +kernel⟩
theorem wd_114 : (Jvm.Cond.fieldLink "EchoLine" (146 : Nat) "EchoLine$Chamber" "comesAt" "[[I") ∈ WG := xWG (List.mem_of_getElem? (i := 114) (by decide +kernel)) (by decide +kernel)
theorem fk_X5_146 : xFld RX5 146 0 12 8 2 := ⟨by decide, RX0, TX0, rfl, by decide, rfl, wd_114⟩
theorem wd_388 : (Jvm.Cond.methodLink "EchoLine" (150 : Nat) ({ cls := "EchoLine$Report", name := "ofBeat", desc := "(III)I" } : Jvm.MethodName)) ∈ WG := xWG (List.mem_of_getElem? (i := 388) (by decide +kernel)) (by decide +kernel)
theorem wd_389 : (Jvm.Cond.instanceMethod ({ cls := "EchoLine$Report", name := "ofBeat", desc := "(III)I" } : Jvm.MethodName)) ∈ WG := xWG (List.mem_of_getElem? (i := 389) (by decide +kernel)) (by decide +kernel)
theorem wd_390 : (Jvm.Cond.selects "EchoLine$Report" ({ cls := "EchoLine$Report", name := "ofBeat", desc := "(III)I" } : Jvm.MethodName) ({ cls := "EchoLine$Report", name := "ofBeat", desc := "(III)I" } : Jvm.MethodName)) ∈ WG := xWG (List.mem_of_getElem? (i := 390) (by decide +kernel)) (by decide +kernel)
theorem wd_391 : (Jvm.Cond.code ({ cls := "EchoLine$Report", name := "ofBeat", desc := "(III)I" } : Jvm.MethodName) prog_5_method_4_code (5 : Nat) (Option.some Jvm.ClassFile.FieldType.int)) ∈ WG := xWG (List.mem_of_getElem? (i := 391) (by decide +kernel)) (by decide +kernel)
theorem ck_X5_150 : xCal RX5 150 RX3 yX3_ofBeat cX3_ofBeat 5 (some .int) 3 := ⟨⟨wd_388, wd_389, wd_390, wd_62, wd_391⟩, rfl, by decide +kernel, by decide +kernel, by decide +kernel⟩
theorem wd_339 : (Jvm.Cond.methodLink "EchoLine" (153 : Nat) ({ cls := "EchoLine$Report", name := "ofSpeaker", desc := "(II)I" } : Jvm.MethodName)) ∈ WG := xWG (List.mem_of_getElem? (i := 339) (by decide +kernel)) (by decide +kernel)
theorem wd_340 : (Jvm.Cond.instanceMethod ({ cls := "EchoLine$Report", name := "ofSpeaker", desc := "(II)I" } : Jvm.MethodName)) ∈ WG := xWG (List.mem_of_getElem? (i := 340) (by decide +kernel)) (by decide +kernel)
theorem wd_341 : (Jvm.Cond.selects "EchoLine$Report" ({ cls := "EchoLine$Report", name := "ofSpeaker", desc := "(II)I" } : Jvm.MethodName) ({ cls := "EchoLine$Report", name := "ofSpeaker", desc := "(II)I" } : Jvm.MethodName)) ∈ WG := xWG (List.mem_of_getElem? (i := 341) (by decide +kernel)) (by decide +kernel)
theorem wd_342 : (Jvm.Cond.code ({ cls := "EchoLine$Report", name := "ofSpeaker", desc := "(II)I" } : Jvm.MethodName) prog_5_method_6_code (3 : Nat) (Option.some Jvm.ClassFile.FieldType.int)) ∈ WG := xWG (List.mem_of_getElem? (i := 342) (by decide +kernel)) (by decide +kernel)
theorem ck_X5_153 : xCal RX5 153 RX3 yX3_ofSpeaker cX3_ofSpeaker 3 (some .int) 2 := ⟨⟨wd_339, wd_340, wd_341, wd_62, wd_342⟩, rfl, by decide +kernel, by decide +kernel, by decide +kernel⟩
theorem wd_396 : (Jvm.Cond.methodLink "EchoLine" (156 : Nat) ({ cls := "EchoLine$Report", name := "hearingOf", desc := "(III)I" } : Jvm.MethodName)) ∈ WG := xWG (List.mem_of_getElem? (i := 396) (by decide +kernel)) (by decide +kernel)
theorem ck_X5_156 : xCal RX5 156 RX3 yX3_hearingOf cX3_hearingOf 11 (some .int) 3 := ⟨⟨wd_396, wd_324, wd_325, wd_62, wd_326⟩, rfl, by decide +kernel, by decide +kernel, by decide +kernel⟩
theorem wd_295 : (Jvm.Cond.methodLink "EchoLine" (159 : Nat) ({ cls := "EchoLine", name := "total", desc := "(I)I" } : Jvm.MethodName)) ∈ WG := xWG (List.mem_of_getElem? (i := 295) (by decide +kernel)) (by decide +kernel)
theorem wd_297 : (Jvm.Cond.instanceMethod ({ cls := "EchoLine", name := "total", desc := "(I)I" } : Jvm.MethodName)) ∈ WG := xWG (List.mem_of_getElem? (i := 297) (by decide +kernel)) (by decide +kernel)
theorem wd_1 : (Jvm.Cond.selects "EchoLine" ({ cls := "EchoLine", name := "total", desc := "(I)I" } : Jvm.MethodName) ({ cls := "EchoLine", name := "total", desc := "(I)I" } : Jvm.MethodName)) ∈ WG := xWG (List.mem_of_getElem? (i := 1) (by decide +kernel)) (by decide +kernel)
theorem wd_298 : (Jvm.Cond.code ({ cls := "EchoLine", name := "total", desc := "(I)I" } : Jvm.MethodName) prog_1_method_29_code (2 : Nat) (Option.some Jvm.ClassFile.FieldType.int)) ∈ WG := xWG (List.mem_of_getElem? (i := 298) (by decide +kernel)) (by decide +kernel)
theorem ck_X5_159 : xCal RX5 159 RX5 yX5_total cX5_total 2 (some .int) 1 := ⟨⟨wd_295, wd_297, wd_1, wd_60, wd_298⟩, rfl, by decide +kernel, by decide +kernel, by decide +kernel⟩
theorem wd_380 : (Jvm.Cond.methodLink "EchoLine" (163 : Nat) ({ cls := "EchoLine$Report", name := "whyUnheard", desc := "(II)I" } : Jvm.MethodName)) ∈ WG := xWG (List.mem_of_getElem? (i := 380) (by decide +kernel)) (by decide +kernel)
theorem wd_381 : (Jvm.Cond.instanceMethod ({ cls := "EchoLine$Report", name := "whyUnheard", desc := "(II)I" } : Jvm.MethodName)) ∈ WG := xWG (List.mem_of_getElem? (i := 381) (by decide +kernel)) (by decide +kernel)
theorem wd_382 : (Jvm.Cond.selects "EchoLine$Report" ({ cls := "EchoLine$Report", name := "whyUnheard", desc := "(II)I" } : Jvm.MethodName) ({ cls := "EchoLine$Report", name := "whyUnheard", desc := "(II)I" } : Jvm.MethodName)) ∈ WG := xWG (List.mem_of_getElem? (i := 382) (by decide +kernel)) (by decide +kernel)
theorem wd_383 : (Jvm.Cond.code ({ cls := "EchoLine$Report", name := "whyUnheard", desc := "(II)I" } : Jvm.MethodName) prog_5_method_19_code (4 : Nat) (Option.some Jvm.ClassFile.FieldType.int)) ∈ WG := xWG (List.mem_of_getElem? (i := 383) (by decide +kernel)) (by decide +kernel)
theorem ck_X5_163 : xCal RX5 163 RX3 yX3_whyUnheard cX3_whyUnheard 4 (some .int) 2 := ⟨⟨wd_380, wd_381, wd_382, wd_62, wd_383⟩, rfl, by decide +kernel, by decide +kernel, by decide +kernel⟩
theorem wd_367 : (Jvm.Cond.methodLink "EchoLine" (166 : Nat) ({ cls := "EchoLine$Chamber", name := "secondLast", desc := "(II)I" } : Jvm.MethodName)) ∈ WG := xWG (List.mem_of_getElem? (i := 367) (by decide +kernel)) (by decide +kernel)
theorem ck_X5_166 : xCal RX5 166 RX0 yX0_secondLast cX0_secondLast 9 (some .int) 2 := ⟨⟨wd_367, wd_368, wd_369, wd_61, wd_370⟩, rfl, by decide +kernel, by decide +kernel, by decide +kernel⟩
theorem wd_397 : (Jvm.Cond.methodLink "EchoLine" (169 : Nat) ({ cls := "EchoLine$Report", name := "silentBeatsUntilHeard", desc := "(II)I" } : Jvm.MethodName)) ∈ WG := xWG (List.mem_of_getElem? (i := 397) (by decide +kernel)) (by decide +kernel)
theorem wd_398 : (Jvm.Cond.instanceMethod ({ cls := "EchoLine$Report", name := "silentBeatsUntilHeard", desc := "(II)I" } : Jvm.MethodName)) ∈ WG := xWG (List.mem_of_getElem? (i := 398) (by decide +kernel)) (by decide +kernel)
theorem wd_399 : (Jvm.Cond.selects "EchoLine$Report" ({ cls := "EchoLine$Report", name := "silentBeatsUntilHeard", desc := "(II)I" } : Jvm.MethodName) ({ cls := "EchoLine$Report", name := "silentBeatsUntilHeard", desc := "(II)I" } : Jvm.MethodName)) ∈ WG := xWG (List.mem_of_getElem? (i := 399) (by decide +kernel)) (by decide +kernel)
theorem wd_400 : (Jvm.Cond.code ({ cls := "EchoLine$Report", name := "silentBeatsUntilHeard", desc := "(II)I" } : Jvm.MethodName) prog_5_method_20_code (4 : Nat) (Option.some Jvm.ClassFile.FieldType.int)) ∈ WG := xWG (List.mem_of_getElem? (i := 400) (by decide +kernel)) (by decide +kernel)
theorem ck_X5_169 : xCal RX5 169 RX3 yX3_silentBeatsUntilHeard cX3_silentBeatsUntilHeard 4 (some .int) 2 := ⟨⟨wd_397, wd_398, wd_399, wd_62, wd_400⟩, rfl, by decide +kernel, by decide +kernel, by decide +kernel⟩
theorem wd_250 : (Jvm.Cond.methodLink "EchoLine" (172 : Nat) ({ cls := "EchoLine$Report", name := "bestPlace", desc := "()I" } : Jvm.MethodName)) ∈ WG := xWG (List.mem_of_getElem? (i := 250) (by decide +kernel)) (by decide +kernel)
theorem wd_251 : (Jvm.Cond.instanceMethod ({ cls := "EchoLine$Report", name := "bestPlace", desc := "()I" } : Jvm.MethodName)) ∈ WG := xWG (List.mem_of_getElem? (i := 251) (by decide +kernel)) (by decide +kernel)
theorem wd_252 : (Jvm.Cond.selects "EchoLine$Report" ({ cls := "EchoLine$Report", name := "bestPlace", desc := "()I" } : Jvm.MethodName) ({ cls := "EchoLine$Report", name := "bestPlace", desc := "()I" } : Jvm.MethodName)) ∈ WG := xWG (List.mem_of_getElem? (i := 252) (by decide +kernel)) (by decide +kernel)
theorem wd_253 : (Jvm.Cond.code ({ cls := "EchoLine$Report", name := "bestPlace", desc := "()I" } : Jvm.MethodName) prog_5_method_21_code (9 : Nat) (Option.some Jvm.ClassFile.FieldType.int)) ∈ WG := xWG (List.mem_of_getElem? (i := 253) (by decide +kernel)) (by decide +kernel)
theorem ck_X5_172 : xCal RX5 172 RX3 yX3_bestPlace cX3_bestPlace 9 (some .int) 0 := ⟨⟨wd_250, wd_251, wd_252, wd_62, wd_253⟩, rfl, by decide +kernel, by decide +kernel, by decide +kernel⟩
theorem wd_271 : (Jvm.Cond.methodLink "EchoLine" (175 : Nat) ({ cls := "EchoLine$Report", name := "share", desc := "()D" } : Jvm.MethodName)) ∈ WG := xWG (List.mem_of_getElem? (i := 271) (by decide +kernel)) (by decide +kernel)
theorem wd_272 : (Jvm.Cond.instanceMethod ({ cls := "EchoLine$Report", name := "share", desc := "()D" } : Jvm.MethodName)) ∈ WG := xWG (List.mem_of_getElem? (i := 272) (by decide +kernel)) (by decide +kernel)
theorem wd_273 : (Jvm.Cond.selects "EchoLine$Report" ({ cls := "EchoLine$Report", name := "share", desc := "()D" } : Jvm.MethodName) ({ cls := "EchoLine$Report", name := "share", desc := "()D" } : Jvm.MethodName)) ∈ WG := xWG (List.mem_of_getElem? (i := 273) (by decide +kernel)) (by decide +kernel)
theorem wd_274 : (Jvm.Cond.code ({ cls := "EchoLine$Report", name := "share", desc := "()D" } : Jvm.MethodName) prog_5_method_22_code (3 : Nat) (Option.some Jvm.ClassFile.FieldType.double)) ∈ WG := xWG (List.mem_of_getElem? (i := 274) (by decide +kernel)) (by decide +kernel)
theorem ck_X5_175 : xCal RX5 175 RX3 yX3_share cX3_share 3 (some .double) 0 := ⟨⟨wd_271, wd_272, wd_273, wd_62, wd_274⟩, rfl, by decide +kernel, by decide +kernel, by decide +kernel⟩
theorem wd_283 : (Jvm.Cond.classLink "EchoLine" (179 : Nat) "EchoLine$Hash") ∈ WG := xWG (List.mem_of_getElem? (i := 283) (by decide +kernel)) (by decide +kernel)
theorem wd_284 : (Jvm.Cond.instantiable "EchoLine$Hash" (1 : Nat)) ∈ WG := xWG (List.mem_of_getElem? (i := 284) (by decide +kernel)) (by decide +kernel)
theorem wd_74 : (Jvm.Cond.initialized "EchoLine$Hash") ∈ WG := xWG (List.mem_of_getElem? (i := 74) (by decide +kernel)) (by decide +kernel)
theorem wd_286 : (Jvm.Cond.instanceMethod ({ cls := "EchoLine$Hash", name := "<init>", desc := "()V" } : Jvm.MethodName)) ∈ WG := xWG (List.mem_of_getElem? (i := 286) (by decide +kernel)) (by decide +kernel)
theorem wn_285 : (Jvm.Cond.methodLinkNest "EchoLine" (181 : Nat) ({ cls := "EchoLine$Hash", name := "<init>", desc := "()V" } : Jvm.MethodName) "EchoLine") ∈ WN := xWN (List.mem_of_getElem? (i := 285) (by decide +kernel)) (by decide +kernel)
theorem wd_287 : (Jvm.Cond.code ({ cls := "EchoLine$Hash", name := "<init>", desc := "()V" } : Jvm.MethodName) prog_3_method_1_code (1 : Nat) (Option.none : Option Jvm.ClassFile.FieldType)) ∈ WG := xWG (List.mem_of_getElem? (i := 287) (by decide +kernel)) (by decide +kernel)
theorem ck_X5_181 : xCaN RX5 181 yX1_init "EchoLine" cX1_init 1 none (.instanceMethod yX1_init) 0 := ⟨⟨wn_285, wd_286, wd_74, wd_287⟩, by decide +kernel, by decide +kernel, by decide +kernel⟩
theorem wd_330 : (Jvm.Cond.methodLink "EchoLine" (182 : Nat) ({ cls := "EchoLine$Hash", name := "take", desc := "(J)V" } : Jvm.MethodName)) ∈ WG := xWG (List.mem_of_getElem? (i := 330) (by decide +kernel)) (by decide +kernel)
theorem wd_331 : (Jvm.Cond.instanceMethod ({ cls := "EchoLine$Hash", name := "take", desc := "(J)V" } : Jvm.MethodName)) ∈ WG := xWG (List.mem_of_getElem? (i := 331) (by decide +kernel)) (by decide +kernel)
theorem wd_332 : (Jvm.Cond.selects "EchoLine$Hash" ({ cls := "EchoLine$Hash", name := "take", desc := "(J)V" } : Jvm.MethodName) ({ cls := "EchoLine$Hash", name := "take", desc := "(J)V" } : Jvm.MethodName)) ∈ WG := xWG (List.mem_of_getElem? (i := 332) (by decide +kernel)) (by decide +kernel)
theorem wd_333 : (Jvm.Cond.code ({ cls := "EchoLine$Hash", name := "take", desc := "(J)V" } : Jvm.MethodName) prog_3_method_2_code (3 : Nat) (Option.none : Option Jvm.ClassFile.FieldType)) ∈ WG := xWG (List.mem_of_getElem? (i := 333) (by decide +kernel)) (by decide +kernel)
theorem ck_X5_182 : xCal RX5 182 RX1 yX1_take cX1_take 3 none 1 := ⟨⟨wd_330, wd_331, wd_332, wd_74, wd_333⟩, rfl, by decide +kernel, by decide +kernel, by decide +kernel⟩
theorem wd_335 : (Jvm.Cond.methodLink "EchoLine" (186 : Nat) ({ cls := "EchoLine", name := "takeSpeakers", desc := "(LEchoLine$Hash;)V" } : Jvm.MethodName)) ∈ WG := xWG (List.mem_of_getElem? (i := 335) (by decide +kernel)) (by decide +kernel)
theorem wd_337 : (Jvm.Cond.instanceMethod ({ cls := "EchoLine", name := "takeSpeakers", desc := "(LEchoLine$Hash;)V" } : Jvm.MethodName)) ∈ WG := xWG (List.mem_of_getElem? (i := 337) (by decide +kernel)) (by decide +kernel)
theorem wd_7 : (Jvm.Cond.selects "EchoLine" ({ cls := "EchoLine", name := "takeSpeakers", desc := "(LEchoLine$Hash;)V" } : Jvm.MethodName) ({ cls := "EchoLine", name := "takeSpeakers", desc := "(LEchoLine$Hash;)V" } : Jvm.MethodName)) ∈ WG := xWG (List.mem_of_getElem? (i := 7) (by decide +kernel)) (by decide +kernel)
theorem wd_338 : (Jvm.Cond.code ({ cls := "EchoLine", name := "takeSpeakers", desc := "(LEchoLine$Hash;)V" } : Jvm.MethodName) prog_1_method_25_code (4 : Nat) (Option.none : Option Jvm.ClassFile.FieldType)) ∈ WG := xWG (List.mem_of_getElem? (i := 338) (by decide +kernel)) (by decide +kernel)
theorem ck_X5_186 : xCal RX5 186 RX5 yX5_takeSpeakers cX5_takeSpeakers 4 none 1 := ⟨⟨wd_335, wd_337, wd_7, wd_60, wd_338⟩, rfl, by decide +kernel, by decide +kernel, by decide +kernel⟩
theorem wd_371 : (Jvm.Cond.methodLink "EchoLine" (190 : Nat) ({ cls := "EchoLine", name := "takeLatestWords", desc := "(LEchoLine$Hash;)V" } : Jvm.MethodName)) ∈ WG := xWG (List.mem_of_getElem? (i := 371) (by decide +kernel)) (by decide +kernel)
theorem wd_373 : (Jvm.Cond.instanceMethod ({ cls := "EchoLine", name := "takeLatestWords", desc := "(LEchoLine$Hash;)V" } : Jvm.MethodName)) ∈ WG := xWG (List.mem_of_getElem? (i := 373) (by decide +kernel)) (by decide +kernel)
theorem wd_14 : (Jvm.Cond.selects "EchoLine" ({ cls := "EchoLine", name := "takeLatestWords", desc := "(LEchoLine$Hash;)V" } : Jvm.MethodName) ({ cls := "EchoLine", name := "takeLatestWords", desc := "(LEchoLine$Hash;)V" } : Jvm.MethodName)) ∈ WG := xWG (List.mem_of_getElem? (i := 14) (by decide +kernel)) (by decide +kernel)
theorem wd_374 : (Jvm.Cond.code ({ cls := "EchoLine", name := "takeLatestWords", desc := "(LEchoLine$Hash;)V" } : Jvm.MethodName) prog_1_method_26_code (5 : Nat) (Option.none : Option Jvm.ClassFile.FieldType)) ∈ WG := xWG (List.mem_of_getElem? (i := 374) (by decide +kernel)) (by decide +kernel)
theorem ck_X5_190 : xCal RX5 190 RX5 yX5_takeLatestWords cX5_takeLatestWords 5 none 1 := ⟨⟨wd_371, wd_373, wd_14, wd_60, wd_374⟩, rfl, by decide +kernel, by decide +kernel, by decide +kernel⟩
theorem wd_384 : (Jvm.Cond.methodLink "EchoLine" (193 : Nat) ({ cls := "EchoLine", name := "takeLatestBeats", desc := "(LEchoLine$Hash;)V" } : Jvm.MethodName)) ∈ WG := xWG (List.mem_of_getElem? (i := 384) (by decide +kernel)) (by decide +kernel)
theorem wd_386 : (Jvm.Cond.instanceMethod ({ cls := "EchoLine", name := "takeLatestBeats", desc := "(LEchoLine$Hash;)V" } : Jvm.MethodName)) ∈ WG := xWG (List.mem_of_getElem? (i := 386) (by decide +kernel)) (by decide +kernel)
theorem wd_15 : (Jvm.Cond.selects "EchoLine" ({ cls := "EchoLine", name := "takeLatestBeats", desc := "(LEchoLine$Hash;)V" } : Jvm.MethodName) ({ cls := "EchoLine", name := "takeLatestBeats", desc := "(LEchoLine$Hash;)V" } : Jvm.MethodName)) ∈ WG := xWG (List.mem_of_getElem? (i := 15) (by decide +kernel)) (by decide +kernel)
theorem wd_387 : (Jvm.Cond.code ({ cls := "EchoLine", name := "takeLatestBeats", desc := "(LEchoLine$Hash;)V" } : Jvm.MethodName) prog_1_method_27_code (6 : Nat) (Option.none : Option Jvm.ClassFile.FieldType)) ∈ WG := xWG (List.mem_of_getElem? (i := 387) (by decide +kernel)) (by decide +kernel)
theorem ck_X5_193 : xCal RX5 193 RX5 yX5_takeLatestBeats cX5_takeLatestBeats 6 none 1 := ⟨⟨wd_384, wd_386, wd_15, wd_60, wd_387⟩, rfl, by decide +kernel, by decide +kernel, by decide +kernel⟩
theorem wd_392 : (Jvm.Cond.methodLink "EchoLine" (196 : Nat) ({ cls := "EchoLine", name := "takeMessages", desc := "(LEchoLine$Hash;)V" } : Jvm.MethodName)) ∈ WG := xWG (List.mem_of_getElem? (i := 392) (by decide +kernel)) (by decide +kernel)
theorem wd_394 : (Jvm.Cond.instanceMethod ({ cls := "EchoLine", name := "takeMessages", desc := "(LEchoLine$Hash;)V" } : Jvm.MethodName)) ∈ WG := xWG (List.mem_of_getElem? (i := 394) (by decide +kernel)) (by decide +kernel)
theorem wd_16 : (Jvm.Cond.selects "EchoLine" ({ cls := "EchoLine", name := "takeMessages", desc := "(LEchoLine$Hash;)V" } : Jvm.MethodName) ({ cls := "EchoLine", name := "takeMessages", desc := "(LEchoLine$Hash;)V" } : Jvm.MethodName)) ∈ WG := xWG (List.mem_of_getElem? (i := 16) (by decide +kernel)) (by decide +kernel)
theorem wd_395 : (Jvm.Cond.code ({ cls := "EchoLine", name := "takeMessages", desc := "(LEchoLine$Hash;)V" } : Jvm.MethodName) prog_1_method_28_code (6 : Nat) (Option.none : Option Jvm.ClassFile.FieldType)) ∈ WG := xWG (List.mem_of_getElem? (i := 395) (by decide +kernel)) (by decide +kernel)
theorem ck_X5_196 : xCal RX5 196 RX5 yX5_takeMessages cX5_takeMessages 6 none 1 := ⟨⟨wd_392, wd_394, wd_16, wd_60, wd_395⟩, rfl, by decide +kernel, by decide +kernel, by decide +kernel⟩
theorem wd_402 : (Jvm.Cond.constantLong "EchoLine" (199 : Nat) (-1 : Int64)) ∈ WG := xWG (List.mem_of_getElem? (i := 402) (by decide +kernel)) (by decide +kernel)
theorem wd_403 : (Jvm.Cond.methodLink "EchoLine" (201 : Nat) ({ cls := "EchoLine$Hash", name := "bitsOf", desc := "(D)J" } : Jvm.MethodName)) ∈ WG := xWG (List.mem_of_getElem? (i := 403) (by decide +kernel)) (by decide +kernel)
theorem wd_404 : (Jvm.Cond.static ({ cls := "EchoLine$Hash", name := "bitsOf", desc := "(D)J" } : Jvm.MethodName)) ∈ WG := xWG (List.mem_of_getElem? (i := 404) (by decide +kernel)) (by decide +kernel)
theorem wd_405 : (Jvm.Cond.code ({ cls := "EchoLine$Hash", name := "bitsOf", desc := "(D)J" } : Jvm.MethodName) prog_3_method_3_code (6 : Nat) (Option.some Jvm.ClassFile.FieldType.long)) ∈ WG := xWG (List.mem_of_getElem? (i := 405) (by decide +kernel)) (by decide +kernel)
theorem ck_X5_201 : xCaS RX5 201 yX1_bitsOf cX1_bitsOf 6 (some .long) 1 := ⟨⟨wd_403, wd_404, wd_74, wd_405⟩, by decide +kernel, by decide +kernel, by decide +kernel⟩
theorem wd_182 : (Jvm.Cond.fieldLink "EchoLine" (205 : Nat) "EchoLine$Text" "signs" "[C") ∈ WG := xWG (List.mem_of_getElem? (i := 182) (by decide +kernel)) (by decide +kernel)
theorem fk_X5_205 : xFld RX5 205 4 2 1 2 := ⟨by decide, RX4, TX4, rfl, by decide, rfl, wd_182⟩
theorem wd_291 : (Jvm.Cond.fieldLink "EchoLine" (209 : Nat) "EchoLine$Hash" "value" "J") ∈ WG := xWG (List.mem_of_getElem? (i := 291) (by decide +kernel)) (by decide +kernel)
theorem fk_X5_209 : xFld RX5 209 1 1 0 1 := ⟨by decide, RX1, TX1, rfl, by decide, rfl, wd_291⟩
theorem wd_375 : (Jvm.Cond.methodLink "EchoLine" (213 : Nat) ({ cls := "java/lang/Math", name := "max", desc := "(II)I" } : Jvm.MethodName)) ∈ WG := xWG (List.mem_of_getElem? (i := 375) (by decide +kernel)) (by decide +kernel)
theorem wd_299 : (Jvm.Cond.methodLink "EchoLine" (218 : Nat) ({ cls := "EchoLine$Report", name := "ofAll", desc := "(I)I" } : Jvm.MethodName)) ∈ WG := xWG (List.mem_of_getElem? (i := 299) (by decide +kernel)) (by decide +kernel)
theorem wd_300 : (Jvm.Cond.instanceMethod ({ cls := "EchoLine$Report", name := "ofAll", desc := "(I)I" } : Jvm.MethodName)) ∈ WG := xWG (List.mem_of_getElem? (i := 300) (by decide +kernel)) (by decide +kernel)
theorem wd_301 : (Jvm.Cond.selects "EchoLine$Report" ({ cls := "EchoLine$Report", name := "ofAll", desc := "(I)I" } : Jvm.MethodName) ({ cls := "EchoLine$Report", name := "ofAll", desc := "(I)I" } : Jvm.MethodName)) ∈ WG := xWG (List.mem_of_getElem? (i := 301) (by decide +kernel)) (by decide +kernel)
theorem wd_302 : (Jvm.Cond.code ({ cls := "EchoLine$Report", name := "ofAll", desc := "(I)I" } : Jvm.MethodName) prog_5_method_14_code (2 : Nat) (Option.some Jvm.ClassFile.FieldType.int)) ∈ WG := xWG (List.mem_of_getElem? (i := 302) (by decide +kernel)) (by decide +kernel)
theorem ck_X5_218 : xCal RX5 218 RX3 yX3_ofAll cX3_ofAll 2 (some .int) 1 := ⟨⟨wd_299, wd_300, wd_301, wd_62, wd_302⟩, rfl, by decide +kernel, by decide +kernel, by decide +kernel⟩
theorem wd_720 : (Jvm.Cond.methodLink "EchoLineModel" (1 : Nat) ({ cls := "java/lang/Object", name := "<init>", desc := "()V" } : Jvm.MethodName)) ∈ WG := xWG (List.mem_of_getElem? (i := 720) (by decide +kernel)) (by decide +kernel)
theorem wd_721 : (Jvm.Cond.constant "EchoLineModel" (7 : Nat) (35288 : Int32)) ∈ WG := xWG (List.mem_of_getElem? (i := 721) (by decide +kernel)) (by decide +kernel)
theorem wd_722 : (Jvm.Cond.fieldLink "EchoLineModel" (8 : Nat) "EchoLineModel" "s" "[I") ∈ WG := xWG (List.mem_of_getElem? (i := 722) (by decide +kernel)) (by decide +kernel)
theorem fk_X6_8 : xFld RX6 8 6 13 0 2 := ⟨by decide, RX6, TX6, rfl, by decide, rfl, wd_722⟩
theorem wd_726 : (Jvm.Cond.fieldLink "EchoLineModel" (14 : Nat) "EchoLineModel" "text" "[C") ∈ WG := xWG (List.mem_of_getElem? (i := 726) (by decide +kernel)) (by decide +kernel)
theorem fk_X6_14 : xFld RX6 14 6 13 4 2 := ⟨by decide, RX6, TX6, rfl, by decide, rfl, wd_726⟩
theorem wd_734 : (Jvm.Cond.fieldLink "EchoLineModel" (18 : Nat) "EchoLineModel" "words" "[I") ∈ WG := xWG (List.mem_of_getElem? (i := 734) (by decide +kernel)) (by decide +kernel)
theorem fk_X6_18 : xFld RX6 18 6 13 12 2 := ⟨by decide, RX6, TX6, rfl, by decide, rfl, wd_734⟩
theorem wd_725 : (Jvm.Cond.fieldLink "EchoLineModel" (21 : Nat) "EchoLineModel" "thrown" "I") ∈ WG := xWG (List.mem_of_getElem? (i := 725) (by decide +kernel)) (by decide +kernel)
theorem fk_X6_21 : xFld RX6 21 6 13 3 0 := ⟨by decide, RX6, TX6, rfl, by decide, rfl, wd_725⟩
theorem wd_723 : (Jvm.Cond.fieldLink "EchoLineModel" (25 : Nat) "EchoLineModel" "states" "I") ∈ WG := xWG (List.mem_of_getElem? (i := 723) (by decide +kernel)) (by decide +kernel)
theorem fk_X6_25 : xFld RX6 25 6 13 1 0 := ⟨by decide, RX6, TX6, rfl, by decide, rfl, wd_723⟩
theorem wd_788 : (Jvm.Cond.methodLink "EchoLineModel" (28 : Nat) ({ cls := "EchoLineModel", name := "copies", desc := "(II)V" } : Jvm.MethodName)) ∈ WG := xWG (List.mem_of_getElem? (i := 788) (by decide +kernel)) (by decide +kernel)
theorem wd_790 : (Jvm.Cond.instanceMethod ({ cls := "EchoLineModel", name := "copies", desc := "(II)V" } : Jvm.MethodName)) ∈ WG := xWG (List.mem_of_getElem? (i := 790) (by decide +kernel)) (by decide +kernel)
theorem wd_26 : (Jvm.Cond.selects "EchoLineModel" ({ cls := "EchoLineModel", name := "copies", desc := "(II)V" } : Jvm.MethodName) ({ cls := "EchoLineModel", name := "copies", desc := "(II)V" } : Jvm.MethodName)) ∈ WG := xWG (List.mem_of_getElem? (i := 26) (by decide +kernel)) (by decide +kernel)
theorem wd_65 : (Jvm.Cond.initialized "EchoLineModel") ∈ WG := xWG (List.mem_of_getElem? (i := 65) (by decide +kernel)) (by decide +kernel)
theorem wd_791 : (Jvm.Cond.code ({ cls := "EchoLineModel", name := "copies", desc := "(II)V" } : Jvm.MethodName) prog_8_method_5_code (4 : Nat) (Option.none : Option Jvm.ClassFile.FieldType)) ∈ WG := xWG (List.mem_of_getElem? (i := 791) (by decide +kernel)) (by decide +kernel)
theorem ck_X6_28 : xCal RX6 28 RX6 yX6_copies cX6_copies 4 none 2 := ⟨⟨wd_788, wd_790, wd_26, wd_65, wd_791⟩, rfl, by decide +kernel, by decide +kernel, by decide +kernel⟩
theorem wd_773 : (Jvm.Cond.methodLink "EchoLineModel" (32 : Nat) ({ cls := "EchoLineModel", name := "in", desc := "(III)Z" } : Jvm.MethodName)) ∈ WG := xWG (List.mem_of_getElem? (i := 773) (by decide +kernel)) (by decide +kernel)
theorem wd_774 : (Jvm.Cond.static ({ cls := "EchoLineModel", name := "in", desc := "(III)Z" } : Jvm.MethodName)) ∈ WG := xWG (List.mem_of_getElem? (i := 774) (by decide +kernel)) (by decide +kernel)
theorem wd_775 : (Jvm.Cond.code ({ cls := "EchoLineModel", name := "in", desc := "(III)Z" } : Jvm.MethodName) prog_8_method_3_code (3 : Nat) (Option.some Jvm.ClassFile.FieldType.boolean)) ∈ WG := xWG (List.mem_of_getElem? (i := 775) (by decide +kernel)) (by decide +kernel)
theorem ck_X6_32 : xCaS RX6 32 yX6_in cX6_in 3 (some .boolean) 3 := ⟨⟨wd_773, wd_774, wd_65, wd_775⟩, by decide +kernel, by decide +kernel, by decide +kernel⟩
theorem wd_800 : (Jvm.Cond.methodLink "EchoLineModel" (36 : Nat) ({ cls := "EchoLineModel", name := "apart", desc := "(II)I" } : Jvm.MethodName)) ∈ WG := xWG (List.mem_of_getElem? (i := 800) (by decide +kernel)) (by decide +kernel)
theorem wd_801 : (Jvm.Cond.static ({ cls := "EchoLineModel", name := "apart", desc := "(II)I" } : Jvm.MethodName)) ∈ WG := xWG (List.mem_of_getElem? (i := 801) (by decide +kernel)) (by decide +kernel)
theorem wd_802 : (Jvm.Cond.code ({ cls := "EchoLineModel", name := "apart", desc := "(II)I" } : Jvm.MethodName) prog_8_method_9_code (3 : Nat) (Option.some Jvm.ClassFile.FieldType.int)) ∈ WG := xWG (List.mem_of_getElem? (i := 802) (by decide +kernel)) (by decide +kernel)
theorem ck_X6_36 : xCaS RX6 36 yX6_apart cX6_apart 3 (some .int) 2 := ⟨⟨wd_800, wd_801, wd_65, wd_802⟩, by decide +kernel, by decide +kernel, by decide +kernel⟩
theorem wd_811 : (Jvm.Cond.methodLink "EchoLineModel" (40 : Nat) ({ cls := "EchoLineModel", name := "part", desc := "(II)I" } : Jvm.MethodName)) ∈ WG := xWG (List.mem_of_getElem? (i := 811) (by decide +kernel)) (by decide +kernel)
theorem wd_813 : (Jvm.Cond.instanceMethod ({ cls := "EchoLineModel", name := "part", desc := "(II)I" } : Jvm.MethodName)) ∈ WG := xWG (List.mem_of_getElem? (i := 813) (by decide +kernel)) (by decide +kernel)
theorem wd_31 : (Jvm.Cond.selects "EchoLineModel" ({ cls := "EchoLineModel", name := "part", desc := "(II)I" } : Jvm.MethodName) ({ cls := "EchoLineModel", name := "part", desc := "(II)I" } : Jvm.MethodName)) ∈ WG := xWG (List.mem_of_getElem? (i := 31) (by decide +kernel)) (by decide +kernel)
theorem wd_814 : (Jvm.Cond.code ({ cls := "EchoLineModel", name := "part", desc := "(II)I" } : Jvm.MethodName) prog_8_method_7_code (3 : Nat) (Option.some Jvm.ClassFile.FieldType.int)) ∈ WG := xWG (List.mem_of_getElem? (i := 814) (by decide +kernel)) (by decide +kernel)
theorem ck_X6_40 : xCal RX6 40 RX6 yX6_part cX6_part 3 (some .int) 2 := ⟨⟨wd_811, wd_813, wd_31, wd_65, wd_814⟩, rfl, by decide +kernel, by decide +kernel, by decide +kernel⟩
theorem wd_807 : (Jvm.Cond.methodLink "EchoLineModel" (43 : Nat) ({ cls := "EchoLineModel", name := "voice", desc := "(II)I" } : Jvm.MethodName)) ∈ WG := xWG (List.mem_of_getElem? (i := 807) (by decide +kernel)) (by decide +kernel)
theorem wd_809 : (Jvm.Cond.instanceMethod ({ cls := "EchoLineModel", name := "voice", desc := "(II)I" } : Jvm.MethodName)) ∈ WG := xWG (List.mem_of_getElem? (i := 809) (by decide +kernel)) (by decide +kernel)
theorem wd_30 : (Jvm.Cond.selects "EchoLineModel" ({ cls := "EchoLineModel", name := "voice", desc := "(II)I" } : Jvm.MethodName) ({ cls := "EchoLineModel", name := "voice", desc := "(II)I" } : Jvm.MethodName)) ∈ WG := xWG (List.mem_of_getElem? (i := 30) (by decide +kernel)) (by decide +kernel)
theorem wd_810 : (Jvm.Cond.code ({ cls := "EchoLineModel", name := "voice", desc := "(II)I" } : Jvm.MethodName) prog_8_method_11_code (9 : Nat) (Option.some Jvm.ClassFile.FieldType.int)) ∈ WG := xWG (List.mem_of_getElem? (i := 810) (by decide +kernel)) (by decide +kernel)
theorem ck_X6_43 : xCal RX6 43 RX6 yX6_voice cX6_voice 9 (some .int) 2 := ⟨⟨wd_807, wd_809, wd_30, wd_65, wd_810⟩, rfl, by decide +kernel, by decide +kernel, by decide +kernel⟩
theorem wd_796 : (Jvm.Cond.methodLink "EchoLineModel" (46 : Nat) ({ cls := "EchoLineModel", name := "delay", desc := "(II)I" } : Jvm.MethodName)) ∈ WG := xWG (List.mem_of_getElem? (i := 796) (by decide +kernel)) (by decide +kernel)
theorem wd_798 : (Jvm.Cond.instanceMethod ({ cls := "EchoLineModel", name := "delay", desc := "(II)I" } : Jvm.MethodName)) ∈ WG := xWG (List.mem_of_getElem? (i := 798) (by decide +kernel)) (by decide +kernel)
theorem wd_28 : (Jvm.Cond.selects "EchoLineModel" ({ cls := "EchoLineModel", name := "delay", desc := "(II)I" } : Jvm.MethodName) ({ cls := "EchoLineModel", name := "delay", desc := "(II)I" } : Jvm.MethodName)) ∈ WG := xWG (List.mem_of_getElem? (i := 28) (by decide +kernel)) (by decide +kernel)
theorem wd_799 : (Jvm.Cond.code ({ cls := "EchoLineModel", name := "delay", desc := "(II)I" } : Jvm.MethodName) prog_8_method_10_code (6 : Nat) (Option.some Jvm.ClassFile.FieldType.int)) ∈ WG := xWG (List.mem_of_getElem? (i := 799) (by decide +kernel)) (by decide +kernel)
theorem ck_X6_46 : xCal RX6 46 RX6 yX6_delay cX6_delay 6 (some .int) 2 := ⟨⟨wd_796, wd_798, wd_28, wd_65, wd_799⟩, rfl, by decide +kernel, by decide +kernel, by decide +kernel⟩
theorem wd_803 : (Jvm.Cond.methodLink "EchoLineModel" (49 : Nat) ({ cls := "EchoLineModel", name := "ends", desc := "()V" } : Jvm.MethodName)) ∈ WG := xWG (List.mem_of_getElem? (i := 803) (by decide +kernel)) (by decide +kernel)
theorem wd_805 : (Jvm.Cond.instanceMethod ({ cls := "EchoLineModel", name := "ends", desc := "()V" } : Jvm.MethodName)) ∈ WG := xWG (List.mem_of_getElem? (i := 805) (by decide +kernel)) (by decide +kernel)
theorem wd_29 : (Jvm.Cond.selects "EchoLineModel" ({ cls := "EchoLineModel", name := "ends", desc := "()V" } : Jvm.MethodName) ({ cls := "EchoLineModel", name := "ends", desc := "()V" } : Jvm.MethodName)) ∈ WG := xWG (List.mem_of_getElem? (i := 29) (by decide +kernel)) (by decide +kernel)
theorem wd_806 : (Jvm.Cond.code ({ cls := "EchoLineModel", name := "ends", desc := "()V" } : Jvm.MethodName) prog_8_method_12_code (2 : Nat) (Option.none : Option Jvm.ClassFile.FieldType)) ∈ WG := xWG (List.mem_of_getElem? (i := 806) (by decide +kernel)) (by decide +kernel)
theorem ck_X6_49 : xCal RX6 49 RX6 yX6_ends cX6_ends 2 none 0 := ⟨⟨wd_803, wd_805, wd_29, wd_65, wd_806⟩, rfl, by decide +kernel, by decide +kernel, by decide +kernel⟩
theorem wd_770 : (Jvm.Cond.methodLink "EchoLineModel" (52 : Nat) ({ cls := "EchoLineModel", name := "isSeat", desc := "(I)Z" } : Jvm.MethodName)) ∈ WG := xWG (List.mem_of_getElem? (i := 770) (by decide +kernel)) (by decide +kernel)
theorem wd_771 : (Jvm.Cond.static ({ cls := "EchoLineModel", name := "isSeat", desc := "(I)Z" } : Jvm.MethodName)) ∈ WG := xWG (List.mem_of_getElem? (i := 771) (by decide +kernel)) (by decide +kernel)
theorem wd_772 : (Jvm.Cond.code ({ cls := "EchoLineModel", name := "isSeat", desc := "(I)Z" } : Jvm.MethodName) prog_8_method_8_code (1 : Nat) (Option.some Jvm.ClassFile.FieldType.boolean)) ∈ WG := xWG (List.mem_of_getElem? (i := 772) (by decide +kernel)) (by decide +kernel)
theorem ck_X6_52 : xCaS RX6 52 yX6_isSeat cX6_isSeat 1 (some .boolean) 1 := ⟨⟨wd_770, wd_771, wd_65, wd_772⟩, by decide +kernel, by decide +kernel, by decide +kernel⟩
theorem wd_776 : (Jvm.Cond.methodLink "EchoLineModel" (56 : Nat) ({ cls := "EchoLineModel", name := "canSpeak", desc := "()Z" } : Jvm.MethodName)) ∈ WG := xWG (List.mem_of_getElem? (i := 776) (by decide +kernel)) (by decide +kernel)
theorem wd_778 : (Jvm.Cond.instanceMethod ({ cls := "EchoLineModel", name := "canSpeak", desc := "()Z" } : Jvm.MethodName)) ∈ WG := xWG (List.mem_of_getElem? (i := 778) (by decide +kernel)) (by decide +kernel)
theorem wd_23 : (Jvm.Cond.selects "EchoLineModel" ({ cls := "EchoLineModel", name := "canSpeak", desc := "()Z" } : Jvm.MethodName) ({ cls := "EchoLineModel", name := "canSpeak", desc := "()Z" } : Jvm.MethodName)) ∈ WG := xWG (List.mem_of_getElem? (i := 23) (by decide +kernel)) (by decide +kernel)
theorem wd_779 : (Jvm.Cond.code ({ cls := "EchoLineModel", name := "canSpeak", desc := "()Z" } : Jvm.MethodName) prog_8_method_14_code (1 : Nat) (Option.some Jvm.ClassFile.FieldType.boolean)) ∈ WG := xWG (List.mem_of_getElem? (i := 779) (by decide +kernel)) (by decide +kernel)
theorem ck_X6_56 : xCal RX6 56 RX6 yX6_canSpeak cX6_canSpeak 1 (some .boolean) 0 := ⟨⟨wd_776, wd_778, wd_23, wd_65, wd_779⟩, rfl, by decide +kernel, by decide +kernel, by decide +kernel⟩
theorem wd_780 : (Jvm.Cond.methodLink "EchoLineModel" (60 : Nat) ({ cls := "EchoLineModel", name := "goes", desc := "(ZZZ)Z" } : Jvm.MethodName)) ∈ WG := xWG (List.mem_of_getElem? (i := 780) (by decide +kernel)) (by decide +kernel)
theorem wd_782 : (Jvm.Cond.instanceMethod ({ cls := "EchoLineModel", name := "goes", desc := "(ZZZ)Z" } : Jvm.MethodName)) ∈ WG := xWG (List.mem_of_getElem? (i := 782) (by decide +kernel)) (by decide +kernel)
theorem wd_24 : (Jvm.Cond.selects "EchoLineModel" ({ cls := "EchoLineModel", name := "goes", desc := "(ZZZ)Z" } : Jvm.MethodName) ({ cls := "EchoLineModel", name := "goes", desc := "(ZZZ)Z" } : Jvm.MethodName)) ∈ WG := xWG (List.mem_of_getElem? (i := 24) (by decide +kernel)) (by decide +kernel)
theorem wd_783 : (Jvm.Cond.code ({ cls := "EchoLineModel", name := "goes", desc := "(ZZZ)Z" } : Jvm.MethodName) prog_8_method_4_code (4 : Nat) (Option.some Jvm.ClassFile.FieldType.boolean)) ∈ WG := xWG (List.mem_of_getElem? (i := 783) (by decide +kernel)) (by decide +kernel)
theorem ck_X6_60 : xCal RX6 60 RX6 yX6_goes cX6_goes 4 (some .boolean) 3 := ⟨⟨wd_780, wd_782, wd_24, wd_65, wd_783⟩, rfl, by decide +kernel, by decide +kernel, by decide +kernel⟩
theorem wd_784 : (Jvm.Cond.methodLink "EchoLineModel" (64 : Nat) ({ cls := "EchoLineModel", name := "saves", desc := "()V" } : Jvm.MethodName)) ∈ WG := xWG (List.mem_of_getElem? (i := 784) (by decide +kernel)) (by decide +kernel)
theorem wd_786 : (Jvm.Cond.instanceMethod ({ cls := "EchoLineModel", name := "saves", desc := "()V" } : Jvm.MethodName)) ∈ WG := xWG (List.mem_of_getElem? (i := 786) (by decide +kernel)) (by decide +kernel)
theorem wd_25 : (Jvm.Cond.selects "EchoLineModel" ({ cls := "EchoLineModel", name := "saves", desc := "()V" } : Jvm.MethodName) ({ cls := "EchoLineModel", name := "saves", desc := "()V" } : Jvm.MethodName)) ∈ WG := xWG (List.mem_of_getElem? (i := 25) (by decide +kernel)) (by decide +kernel)
theorem wd_787 : (Jvm.Cond.code ({ cls := "EchoLineModel", name := "saves", desc := "()V" } : Jvm.MethodName) prog_8_method_6_code (2 : Nat) (Option.none : Option Jvm.ClassFile.FieldType)) ∈ WG := xWG (List.mem_of_getElem? (i := 787) (by decide +kernel)) (by decide +kernel)
theorem ck_X6_64 : xCal RX6 64 RX6 yX6_saves cX6_saves 2 none 0 := ⟨⟨wd_784, wd_786, wd_25, wd_65, wd_787⟩, rfl, by decide +kernel, by decide +kernel, by decide +kernel⟩
theorem wd_792 : (Jvm.Cond.methodLink "EchoLineModel" (67 : Nat) ({ cls := "EchoLineModel", name := "speaks", desc := "(III)I" } : Jvm.MethodName)) ∈ WG := xWG (List.mem_of_getElem? (i := 792) (by decide +kernel)) (by decide +kernel)
theorem wd_794 : (Jvm.Cond.instanceMethod ({ cls := "EchoLineModel", name := "speaks", desc := "(III)I" } : Jvm.MethodName)) ∈ WG := xWG (List.mem_of_getElem? (i := 794) (by decide +kernel)) (by decide +kernel)
theorem wd_27 : (Jvm.Cond.selects "EchoLineModel" ({ cls := "EchoLineModel", name := "speaks", desc := "(III)I" } : Jvm.MethodName) ({ cls := "EchoLineModel", name := "speaks", desc := "(III)I" } : Jvm.MethodName)) ∈ WG := xWG (List.mem_of_getElem? (i := 27) (by decide +kernel)) (by decide +kernel)
theorem wd_795 : (Jvm.Cond.code ({ cls := "EchoLineModel", name := "speaks", desc := "(III)I" } : Jvm.MethodName) prog_8_method_13_code (8 : Nat) (Option.some Jvm.ClassFile.FieldType.int)) ∈ WG := xWG (List.mem_of_getElem? (i := 795) (by decide +kernel)) (by decide +kernel)
theorem ck_X6_67 : xCal RX6 67 RX6 yX6_speaks cX6_speaks 8 (some .int) 3 := ⟨⟨wd_792, wd_794, wd_27, wd_65, wd_795⟩, rfl, by decide +kernel, by decide +kernel, by decide +kernel⟩
theorem wd_819 : (Jvm.Cond.methodLink "EchoLineModel" (71 : Nat) ({ cls := "EchoLineModel", name := "passes", desc := "(I)V" } : Jvm.MethodName)) ∈ WG := xWG (List.mem_of_getElem? (i := 819) (by decide +kernel)) (by decide +kernel)
theorem wd_821 : (Jvm.Cond.instanceMethod ({ cls := "EchoLineModel", name := "passes", desc := "(I)V" } : Jvm.MethodName)) ∈ WG := xWG (List.mem_of_getElem? (i := 821) (by decide +kernel)) (by decide +kernel)
theorem wd_32 : (Jvm.Cond.selects "EchoLineModel" ({ cls := "EchoLineModel", name := "passes", desc := "(I)V" } : Jvm.MethodName) ({ cls := "EchoLineModel", name := "passes", desc := "(I)V" } : Jvm.MethodName)) ∈ WG := xWG (List.mem_of_getElem? (i := 32) (by decide +kernel)) (by decide +kernel)
theorem wd_822 : (Jvm.Cond.code ({ cls := "EchoLineModel", name := "passes", desc := "(I)V" } : Jvm.MethodName) prog_8_method_15_code (3 : Nat) (Option.none : Option Jvm.ClassFile.FieldType)) ∈ WG := xWG (List.mem_of_getElem? (i := 822) (by decide +kernel)) (by decide +kernel)
theorem ck_X6_71 : xCal RX6 71 RX6 yX6_passes cX6_passes 3 none 1 := ⟨⟨wd_819, wd_821, wd_32, wd_65, wd_822⟩, rfl, by decide +kernel, by decide +kernel, by decide +kernel⟩
theorem wd_727 : (Jvm.Cond.fieldLink "EchoLineModel" (75 : Nat) "EchoLineModel" "typed" "I") ∈ WG := xWG (List.mem_of_getElem? (i := 727) (by decide +kernel)) (by decide +kernel)
theorem fk_X6_75 : xFld RX6 75 6 13 5 0 := ⟨by decide, RX6, TX6, rfl, by decide, rfl, wd_727⟩
theorem wd_729 : (Jvm.Cond.fieldLink "EchoLineModel" (78 : Nat) "EchoLineModel" "isWrong" "Z") ∈ WG := xWG (List.mem_of_getElem? (i := 729) (by decide +kernel)) (by decide +kernel)
theorem fk_X6_78 : xFld RX6 78 6 13 7 3 := ⟨by decide, RX6, TX6, rfl, by decide, rfl, wd_729⟩
theorem wd_728 : (Jvm.Cond.fieldLink "EchoLineModel" (82 : Nat) "EchoLineModel" "at" "I") ∈ WG := xWG (List.mem_of_getElem? (i := 728) (by decide +kernel)) (by decide +kernel)
theorem fk_X6_82 : xFld RX6 82 6 13 6 0 := ⟨by decide, RX6, TX6, rfl, by decide, rfl, wd_728⟩
theorem wd_851 : (Jvm.Cond.methodLink "EchoLineModel" (85 : Nat) ({ cls := "EchoLineModel", name := "isNow", desc := "(II)Z" } : Jvm.MethodName)) ∈ WG := xWG (List.mem_of_getElem? (i := 851) (by decide +kernel)) (by decide +kernel)
theorem wd_853 : (Jvm.Cond.instanceMethod ({ cls := "EchoLineModel", name := "isNow", desc := "(II)Z" } : Jvm.MethodName)) ∈ WG := xWG (List.mem_of_getElem? (i := 853) (by decide +kernel)) (by decide +kernel)
theorem wd_35 : (Jvm.Cond.selects "EchoLineModel" ({ cls := "EchoLineModel", name := "isNow", desc := "(II)Z" } : Jvm.MethodName) ({ cls := "EchoLineModel", name := "isNow", desc := "(II)Z" } : Jvm.MethodName)) ∈ WG := xWG (List.mem_of_getElem? (i := 35) (by decide +kernel)) (by decide +kernel)
theorem wd_854 : (Jvm.Cond.code ({ cls := "EchoLineModel", name := "isNow", desc := "(II)Z" } : Jvm.MethodName) prog_8_method_22_code (3 : Nat) (Option.some Jvm.ClassFile.FieldType.boolean)) ∈ WG := xWG (List.mem_of_getElem? (i := 854) (by decide +kernel)) (by decide +kernel)
theorem ck_X6_85 : xCal RX6 85 RX6 yX6_isNow cX6_isNow 3 (some .boolean) 2 := ⟨⟨wd_851, wd_853, wd_35, wd_65, wd_854⟩, rfl, by decide +kernel, by decide +kernel, by decide +kernel⟩
theorem wd_733 : (Jvm.Cond.fieldLink "EchoLineModel" (89 : Nat) "EchoLineModel" "many" "I") ∈ WG := xWG (List.mem_of_getElem? (i := 733) (by decide +kernel)) (by decide +kernel)
theorem fk_X6_89 : xFld RX6 89 6 13 11 0 := ⟨by decide, RX6, TX6, rfl, by decide, rfl, wd_733⟩
theorem wd_732 : (Jvm.Cond.fieldLink "EchoLineModel" (92 : Nat) "EchoLineModel" "pause" "I") ∈ WG := xWG (List.mem_of_getElem? (i := 732) (by decide +kernel)) (by decide +kernel)
theorem fk_X6_92 : xFld RX6 92 6 13 10 0 := ⟨by decide, RX6, TX6, rfl, by decide, rfl, wd_732⟩
theorem wd_731 : (Jvm.Cond.fieldLink "EchoLineModel" (95 : Nat) "EchoLineModel" "markOf" "I") ∈ WG := xWG (List.mem_of_getElem? (i := 731) (by decide +kernel)) (by decide +kernel)
theorem fk_X6_95 : xFld RX6 95 6 13 9 0 := ⟨by decide, RX6, TX6, rfl, by decide, rfl, wd_731⟩
theorem wd_855 : (Jvm.Cond.methodLink "EchoLineModel" (98 : Nat) ({ cls := "EchoLineModel", name := "number", desc := "(I)I" } : Jvm.MethodName)) ∈ WG := xWG (List.mem_of_getElem? (i := 855) (by decide +kernel)) (by decide +kernel)
theorem wd_857 : (Jvm.Cond.instanceMethod ({ cls := "EchoLineModel", name := "number", desc := "(I)I" } : Jvm.MethodName)) ∈ WG := xWG (List.mem_of_getElem? (i := 857) (by decide +kernel)) (by decide +kernel)
theorem wd_36 : (Jvm.Cond.selects "EchoLineModel" ({ cls := "EchoLineModel", name := "number", desc := "(I)I" } : Jvm.MethodName) ({ cls := "EchoLineModel", name := "number", desc := "(I)I" } : Jvm.MethodName)) ∈ WG := xWG (List.mem_of_getElem? (i := 36) (by decide +kernel)) (by decide +kernel)
theorem wd_858 : (Jvm.Cond.code ({ cls := "EchoLineModel", name := "number", desc := "(I)I" } : Jvm.MethodName) prog_8_method_25_code (3 : Nat) (Option.some Jvm.ClassFile.FieldType.int)) ∈ WG := xWG (List.mem_of_getElem? (i := 858) (by decide +kernel)) (by decide +kernel)
theorem ck_X6_98 : xCal RX6 98 RX6 yX6_number cX6_number 3 (some .int) 1 := ⟨⟨wd_855, wd_857, wd_36, wd_65, wd_858⟩, rfl, by decide +kernel, by decide +kernel, by decide +kernel⟩
theorem wd_859 : (Jvm.Cond.methodLink "EchoLineModel" (102 : Nat) ({ cls := "EchoLineModel", name := "digit", desc := "(I)I" } : Jvm.MethodName)) ∈ WG := xWG (List.mem_of_getElem? (i := 859) (by decide +kernel)) (by decide +kernel)
theorem wd_861 : (Jvm.Cond.instanceMethod ({ cls := "EchoLineModel", name := "digit", desc := "(I)I" } : Jvm.MethodName)) ∈ WG := xWG (List.mem_of_getElem? (i := 861) (by decide +kernel)) (by decide +kernel)
theorem wd_37 : (Jvm.Cond.selects "EchoLineModel" ({ cls := "EchoLineModel", name := "digit", desc := "(I)I" } : Jvm.MethodName) ({ cls := "EchoLineModel", name := "digit", desc := "(I)I" } : Jvm.MethodName)) ∈ WG := xWG (List.mem_of_getElem? (i := 37) (by decide +kernel)) (by decide +kernel)
theorem wd_862 : (Jvm.Cond.code ({ cls := "EchoLineModel", name := "digit", desc := "(I)I" } : Jvm.MethodName) prog_8_method_24_code (2 : Nat) (Option.some Jvm.ClassFile.FieldType.int)) ∈ WG := xWG (List.mem_of_getElem? (i := 862) (by decide +kernel)) (by decide +kernel)
theorem ck_X6_102 : xCal RX6 102 RX6 yX6_digit cX6_digit 2 (some .int) 1 := ⟨⟨wd_859, wd_861, wd_37, wd_65, wd_862⟩, rfl, by decide +kernel, by decide +kernel, by decide +kernel⟩
theorem wd_730 : (Jvm.Cond.fieldLink "EchoLineModel" (105 : Nat) "EchoLineModel" "seatOf" "I") ∈ WG := xWG (List.mem_of_getElem? (i := 730) (by decide +kernel)) (by decide +kernel)
theorem fk_X6_105 : xFld RX6 105 6 13 8 0 := ⟨by decide, RX6, TX6, rfl, by decide, rfl, wd_730⟩
theorem wd_863 : (Jvm.Cond.methodLink "EchoLineModel" (108 : Nat) ({ cls := "EchoLineModel", name := "sign", desc := "(I)V" } : Jvm.MethodName)) ∈ WG := xWG (List.mem_of_getElem? (i := 863) (by decide +kernel)) (by decide +kernel)
theorem wd_865 : (Jvm.Cond.instanceMethod ({ cls := "EchoLineModel", name := "sign", desc := "(I)V" } : Jvm.MethodName)) ∈ WG := xWG (List.mem_of_getElem? (i := 865) (by decide +kernel)) (by decide +kernel)
theorem wd_38 : (Jvm.Cond.selects "EchoLineModel" ({ cls := "EchoLineModel", name := "sign", desc := "(I)V" } : Jvm.MethodName) ({ cls := "EchoLineModel", name := "sign", desc := "(I)V" } : Jvm.MethodName)) ∈ WG := xWG (List.mem_of_getElem? (i := 38) (by decide +kernel)) (by decide +kernel)
theorem wd_866 : (Jvm.Cond.code ({ cls := "EchoLineModel", name := "sign", desc := "(I)V" } : Jvm.MethodName) prog_8_method_23_code (2 : Nat) (Option.none : Option Jvm.ClassFile.FieldType)) ∈ WG := xWG (List.mem_of_getElem? (i := 866) (by decide +kernel)) (by decide +kernel)
theorem ck_X6_108 : xCal RX6 108 RX6 yX6_sign cX6_sign 2 none 1 := ⟨⟨wd_863, wd_865, wd_38, wd_65, wd_866⟩, rfl, by decide +kernel, by decide +kernel, by decide +kernel⟩
theorem wd_847 : (Jvm.Cond.methodLink "EchoLineModel" (111 : Nat) ({ cls := "EchoLineModel", name := "reads", desc := "()V" } : Jvm.MethodName)) ∈ WG := xWG (List.mem_of_getElem? (i := 847) (by decide +kernel)) (by decide +kernel)
theorem wd_849 : (Jvm.Cond.instanceMethod ({ cls := "EchoLineModel", name := "reads", desc := "()V" } : Jvm.MethodName)) ∈ WG := xWG (List.mem_of_getElem? (i := 849) (by decide +kernel)) (by decide +kernel)
theorem wd_34 : (Jvm.Cond.selects "EchoLineModel" ({ cls := "EchoLineModel", name := "reads", desc := "()V" } : Jvm.MethodName) ({ cls := "EchoLineModel", name := "reads", desc := "()V" } : Jvm.MethodName)) ∈ WG := xWG (List.mem_of_getElem? (i := 34) (by decide +kernel)) (by decide +kernel)
theorem wd_850 : (Jvm.Cond.code ({ cls := "EchoLineModel", name := "reads", desc := "()V" } : Jvm.MethodName) prog_8_method_26_code (2 : Nat) (Option.none : Option Jvm.ClassFile.FieldType)) ∈ WG := xWG (List.mem_of_getElem? (i := 850) (by decide +kernel)) (by decide +kernel)
theorem ck_X6_111 : xCal RX6 111 RX6 yX6_reads cX6_reads 2 none 0 := ⟨⟨wd_847, wd_849, wd_34, wd_65, wd_850⟩, rfl, by decide +kernel, by decide +kernel, by decide +kernel⟩
theorem wd_843 : (Jvm.Cond.methodLink "EchoLineModel" (114 : Nat) ({ cls := "EchoLineModel", name := "readsAll", desc := "()V" } : Jvm.MethodName)) ∈ WG := xWG (List.mem_of_getElem? (i := 843) (by decide +kernel)) (by decide +kernel)
theorem wd_845 : (Jvm.Cond.instanceMethod ({ cls := "EchoLineModel", name := "readsAll", desc := "()V" } : Jvm.MethodName)) ∈ WG := xWG (List.mem_of_getElem? (i := 845) (by decide +kernel)) (by decide +kernel)
theorem wd_33 : (Jvm.Cond.selects "EchoLineModel" ({ cls := "EchoLineModel", name := "readsAll", desc := "()V" } : Jvm.MethodName) ({ cls := "EchoLineModel", name := "readsAll", desc := "()V" } : Jvm.MethodName)) ∈ WG := xWG (List.mem_of_getElem? (i := 33) (by decide +kernel)) (by decide +kernel)
theorem wd_846 : (Jvm.Cond.code ({ cls := "EchoLineModel", name := "readsAll", desc := "()V" } : Jvm.MethodName) prog_8_method_27_code (2 : Nat) (Option.none : Option Jvm.ClassFile.FieldType)) ∈ WG := xWG (List.mem_of_getElem? (i := 846) (by decide +kernel)) (by decide +kernel)
theorem ck_X6_114 : xCal RX6 114 RX6 yX6_readsAll cX6_readsAll 2 none 0 := ⟨⟨wd_843, wd_845, wd_33, wd_65, wd_846⟩, rfl, by decide +kernel, by decide +kernel, by decide +kernel⟩
theorem wd_724 : (Jvm.Cond.fieldLink "EchoLineModel" (117 : Nat) "EchoLineModel" "isKept" "Z") ∈ WG := xWG (List.mem_of_getElem? (i := 724) (by decide +kernel)) (by decide +kernel)
theorem fk_X6_117 : xFld RX6 117 6 13 2 3 := ⟨by decide, RX6, TX6, rfl, by decide, rfl, wd_724⟩
theorem wd_899 : (Jvm.Cond.methodLink "EchoLineModel" (120 : Nat) ({ cls := "EchoLineModel", name := "firstHeard", desc := "(II)I" } : Jvm.MethodName)) ∈ WG := xWG (List.mem_of_getElem? (i := 899) (by decide +kernel)) (by decide +kernel)
theorem wd_901 : (Jvm.Cond.instanceMethod ({ cls := "EchoLineModel", name := "firstHeard", desc := "(II)I" } : Jvm.MethodName)) ∈ WG := xWG (List.mem_of_getElem? (i := 901) (by decide +kernel)) (by decide +kernel)
theorem wd_42 : (Jvm.Cond.selects "EchoLineModel" ({ cls := "EchoLineModel", name := "firstHeard", desc := "(II)I" } : Jvm.MethodName) ({ cls := "EchoLineModel", name := "firstHeard", desc := "(II)I" } : Jvm.MethodName)) ∈ WG := xWG (List.mem_of_getElem? (i := 42) (by decide +kernel)) (by decide +kernel)
theorem wd_902 : (Jvm.Cond.code ({ cls := "EchoLineModel", name := "firstHeard", desc := "(II)I" } : Jvm.MethodName) prog_8_method_34_code (5 : Nat) (Option.some Jvm.ClassFile.FieldType.int)) ∈ WG := xWG (List.mem_of_getElem? (i := 902) (by decide +kernel)) (by decide +kernel)
theorem ck_X6_120 : xCal RX6 120 RX6 yX6_firstHeard cX6_firstHeard 5 (some .int) 2 := ⟨⟨wd_899, wd_901, wd_42, wd_65, wd_902⟩, rfl, by decide +kernel, by decide +kernel, by decide +kernel⟩
theorem wd_891 : (Jvm.Cond.methodLink "EchoLineModel" (123 : Nat) ({ cls := "EchoLineModel", name := "reached", desc := "(I)I" } : Jvm.MethodName)) ∈ WG := xWG (List.mem_of_getElem? (i := 891) (by decide +kernel)) (by decide +kernel)
theorem wd_893 : (Jvm.Cond.instanceMethod ({ cls := "EchoLineModel", name := "reached", desc := "(I)I" } : Jvm.MethodName)) ∈ WG := xWG (List.mem_of_getElem? (i := 893) (by decide +kernel)) (by decide +kernel)
theorem wd_40 : (Jvm.Cond.selects "EchoLineModel" ({ cls := "EchoLineModel", name := "reached", desc := "(I)I" } : Jvm.MethodName) ({ cls := "EchoLineModel", name := "reached", desc := "(I)I" } : Jvm.MethodName)) ∈ WG := xWG (List.mem_of_getElem? (i := 40) (by decide +kernel)) (by decide +kernel)
theorem wd_894 : (Jvm.Cond.code ({ cls := "EchoLineModel", name := "reached", desc := "(I)I" } : Jvm.MethodName) prog_8_method_36_code (4 : Nat) (Option.some Jvm.ClassFile.FieldType.int)) ∈ WG := xWG (List.mem_of_getElem? (i := 894) (by decide +kernel)) (by decide +kernel)
theorem ck_X6_123 : xCal RX6 123 RX6 yX6_reached cX6_reached 4 (some .int) 1 := ⟨⟨wd_891, wd_893, wd_40, wd_65, wd_894⟩, rfl, by decide +kernel, by decide +kernel, by decide +kernel⟩
theorem wd_895 : (Jvm.Cond.methodLink "EchoLineModel" (126 : Nat) ({ cls := "EchoLineModel", name := "hearers", desc := "(I)I" } : Jvm.MethodName)) ∈ WG := xWG (List.mem_of_getElem? (i := 895) (by decide +kernel)) (by decide +kernel)
theorem wd_897 : (Jvm.Cond.instanceMethod ({ cls := "EchoLineModel", name := "hearers", desc := "(I)I" } : Jvm.MethodName)) ∈ WG := xWG (List.mem_of_getElem? (i := 897) (by decide +kernel)) (by decide +kernel)
theorem wd_41 : (Jvm.Cond.selects "EchoLineModel" ({ cls := "EchoLineModel", name := "hearers", desc := "(I)I" } : Jvm.MethodName) ({ cls := "EchoLineModel", name := "hearers", desc := "(I)I" } : Jvm.MethodName)) ∈ WG := xWG (List.mem_of_getElem? (i := 41) (by decide +kernel)) (by decide +kernel)
theorem wd_898 : (Jvm.Cond.code ({ cls := "EchoLineModel", name := "hearers", desc := "(I)I" } : Jvm.MethodName) prog_8_method_35_code (4 : Nat) (Option.some Jvm.ClassFile.FieldType.int)) ∈ WG := xWG (List.mem_of_getElem? (i := 898) (by decide +kernel)) (by decide +kernel)
theorem ck_X6_126 : xCal RX6 126 RX6 yX6_hearers cX6_hearers 4 (some .int) 1 := ⟨⟨wd_895, wd_897, wd_41, wd_65, wd_898⟩, rfl, by decide +kernel, by decide +kernel, by decide +kernel⟩
theorem wd_887 : (Jvm.Cond.methodLink "EchoLineModel" (129 : Nat) ({ cls := "EchoLineModel", name := "ofWord", desc := "(II)I" } : Jvm.MethodName)) ∈ WG := xWG (List.mem_of_getElem? (i := 887) (by decide +kernel)) (by decide +kernel)
theorem wd_889 : (Jvm.Cond.instanceMethod ({ cls := "EchoLineModel", name := "ofWord", desc := "(II)I" } : Jvm.MethodName)) ∈ WG := xWG (List.mem_of_getElem? (i := 889) (by decide +kernel)) (by decide +kernel)
theorem wd_39 : (Jvm.Cond.selects "EchoLineModel" ({ cls := "EchoLineModel", name := "ofWord", desc := "(II)I" } : Jvm.MethodName) ({ cls := "EchoLineModel", name := "ofWord", desc := "(II)I" } : Jvm.MethodName)) ∈ WG := xWG (List.mem_of_getElem? (i := 39) (by decide +kernel)) (by decide +kernel)
theorem wd_890 : (Jvm.Cond.code ({ cls := "EchoLineModel", name := "ofWord", desc := "(II)I" } : Jvm.MethodName) prog_8_method_37_code (3 : Nat) (Option.some Jvm.ClassFile.FieldType.int)) ∈ WG := xWG (List.mem_of_getElem? (i := 890) (by decide +kernel)) (by decide +kernel)
theorem ck_X6_129 : xCal RX6 129 RX6 yX6_ofWord cX6_ofWord 3 (some .int) 2 := ⟨⟨wd_887, wd_889, wd_39, wd_65, wd_890⟩, rfl, by decide +kernel, by decide +kernel, by decide +kernel⟩
theorem wd_907 : (Jvm.Cond.methodLink "EchoLineModel" (132 : Nat) ({ cls := "EchoLineModel", name := "comesTo", desc := "(II)I" } : Jvm.MethodName)) ∈ WG := xWG (List.mem_of_getElem? (i := 907) (by decide +kernel)) (by decide +kernel)
theorem wd_909 : (Jvm.Cond.instanceMethod ({ cls := "EchoLineModel", name := "comesTo", desc := "(II)I" } : Jvm.MethodName)) ∈ WG := xWG (List.mem_of_getElem? (i := 909) (by decide +kernel)) (by decide +kernel)
theorem wd_43 : (Jvm.Cond.selects "EchoLineModel" ({ cls := "EchoLineModel", name := "comesTo", desc := "(II)I" } : Jvm.MethodName) ({ cls := "EchoLineModel", name := "comesTo", desc := "(II)I" } : Jvm.MethodName)) ∈ WG := xWG (List.mem_of_getElem? (i := 43) (by decide +kernel)) (by decide +kernel)
theorem wd_910 : (Jvm.Cond.code ({ cls := "EchoLineModel", name := "comesTo", desc := "(II)I" } : Jvm.MethodName) prog_8_method_39_code (3 : Nat) (Option.some Jvm.ClassFile.FieldType.int)) ∈ WG := xWG (List.mem_of_getElem? (i := 910) (by decide +kernel)) (by decide +kernel)
theorem ck_X6_132 : xCal RX6 132 RX6 yX6_comesTo cX6_comesTo 3 (some .int) 2 := ⟨⟨wd_907, wd_909, wd_43, wd_65, wd_910⟩, rfl, by decide +kernel, by decide +kernel, by decide +kernel⟩
theorem wd_919 : (Jvm.Cond.methodLink "EchoLineModel" (135 : Nat) ({ cls := "EchoLineModel", name := "heardAt", desc := "(II)I" } : Jvm.MethodName)) ∈ WG := xWG (List.mem_of_getElem? (i := 919) (by decide +kernel)) (by decide +kernel)
theorem wd_921 : (Jvm.Cond.instanceMethod ({ cls := "EchoLineModel", name := "heardAt", desc := "(II)I" } : Jvm.MethodName)) ∈ WG := xWG (List.mem_of_getElem? (i := 921) (by decide +kernel)) (by decide +kernel)
theorem wd_45 : (Jvm.Cond.selects "EchoLineModel" ({ cls := "EchoLineModel", name := "heardAt", desc := "(II)I" } : Jvm.MethodName) ({ cls := "EchoLineModel", name := "heardAt", desc := "(II)I" } : Jvm.MethodName)) ∈ WG := xWG (List.mem_of_getElem? (i := 45) (by decide +kernel)) (by decide +kernel)
theorem wd_922 : (Jvm.Cond.code ({ cls := "EchoLineModel", name := "heardAt", desc := "(II)I" } : Jvm.MethodName) prog_8_method_33_code (3 : Nat) (Option.some Jvm.ClassFile.FieldType.int)) ∈ WG := xWG (List.mem_of_getElem? (i := 922) (by decide +kernel)) (by decide +kernel)
theorem ck_X6_135 : xCal RX6 135 RX6 yX6_heardAt cX6_heardAt 3 (some .int) 2 := ⟨⟨wd_919, wd_921, wd_45, wd_65, wd_922⟩, rfl, by decide +kernel, by decide +kernel, by decide +kernel⟩
theorem wd_915 : (Jvm.Cond.methodLink "EchoLineModel" (138 : Nat) ({ cls := "EchoLineModel", name := "ofHeard", desc := "(III)I" } : Jvm.MethodName)) ∈ WG := xWG (List.mem_of_getElem? (i := 915) (by decide +kernel)) (by decide +kernel)
theorem wd_917 : (Jvm.Cond.instanceMethod ({ cls := "EchoLineModel", name := "ofHeard", desc := "(III)I" } : Jvm.MethodName)) ∈ WG := xWG (List.mem_of_getElem? (i := 917) (by decide +kernel)) (by decide +kernel)
theorem wd_44 : (Jvm.Cond.selects "EchoLineModel" ({ cls := "EchoLineModel", name := "ofHeard", desc := "(III)I" } : Jvm.MethodName) ({ cls := "EchoLineModel", name := "ofHeard", desc := "(III)I" } : Jvm.MethodName)) ∈ WG := xWG (List.mem_of_getElem? (i := 44) (by decide +kernel)) (by decide +kernel)
theorem wd_918 : (Jvm.Cond.code ({ cls := "EchoLineModel", name := "ofHeard", desc := "(III)I" } : Jvm.MethodName) prog_8_method_41_code (5 : Nat) (Option.some Jvm.ClassFile.FieldType.int)) ∈ WG := xWG (List.mem_of_getElem? (i := 918) (by decide +kernel)) (by decide +kernel)
theorem ck_X6_138 : xCal RX6 138 RX6 yX6_ofHeard cX6_ofHeard 5 (some .int) 3 := ⟨⟨wd_915, wd_917, wd_44, wd_65, wd_918⟩, rfl, by decide +kernel, by decide +kernel, by decide +kernel⟩
theorem wd_931 : (Jvm.Cond.methodLink "EchoLineModel" (141 : Nat) ({ cls := "EchoLineModel", name := "beatsOf", desc := "(IZ)I" } : Jvm.MethodName)) ∈ WG := xWG (List.mem_of_getElem? (i := 931) (by decide +kernel)) (by decide +kernel)
theorem wd_933 : (Jvm.Cond.instanceMethod ({ cls := "EchoLineModel", name := "beatsOf", desc := "(IZ)I" } : Jvm.MethodName)) ∈ WG := xWG (List.mem_of_getElem? (i := 933) (by decide +kernel)) (by decide +kernel)
theorem wd_47 : (Jvm.Cond.selects "EchoLineModel" ({ cls := "EchoLineModel", name := "beatsOf", desc := "(IZ)I" } : Jvm.MethodName) ({ cls := "EchoLineModel", name := "beatsOf", desc := "(IZ)I" } : Jvm.MethodName)) ∈ WG := xWG (List.mem_of_getElem? (i := 47) (by decide +kernel)) (by decide +kernel)
theorem wd_934 : (Jvm.Cond.code ({ cls := "EchoLineModel", name := "beatsOf", desc := "(IZ)I" } : Jvm.MethodName) prog_8_method_46_code (5 : Nat) (Option.some Jvm.ClassFile.FieldType.int)) ∈ WG := xWG (List.mem_of_getElem? (i := 934) (by decide +kernel)) (by decide +kernel)
theorem ck_X6_141 : xCal RX6 141 RX6 yX6_beatsOf cX6_beatsOf 5 (some .int) 2 := ⟨⟨wd_931, wd_933, wd_47, wd_65, wd_934⟩, rfl, by decide +kernel, by decide +kernel, by decide +kernel⟩
theorem wd_935 : (Jvm.Cond.methodLink "EchoLineModel" (145 : Nat) ({ cls := "EchoLineModel", name := "gaps", desc := "(I)I" } : Jvm.MethodName)) ∈ WG := xWG (List.mem_of_getElem? (i := 935) (by decide +kernel)) (by decide +kernel)
theorem wd_937 : (Jvm.Cond.instanceMethod ({ cls := "EchoLineModel", name := "gaps", desc := "(I)I" } : Jvm.MethodName)) ∈ WG := xWG (List.mem_of_getElem? (i := 937) (by decide +kernel)) (by decide +kernel)
theorem wd_48 : (Jvm.Cond.selects "EchoLineModel" ({ cls := "EchoLineModel", name := "gaps", desc := "(I)I" } : Jvm.MethodName) ({ cls := "EchoLineModel", name := "gaps", desc := "(I)I" } : Jvm.MethodName)) ∈ WG := xWG (List.mem_of_getElem? (i := 48) (by decide +kernel)) (by decide +kernel)
theorem wd_938 : (Jvm.Cond.code ({ cls := "EchoLineModel", name := "gaps", desc := "(I)I" } : Jvm.MethodName) prog_8_method_45_code (7 : Nat) (Option.some Jvm.ClassFile.FieldType.int)) ∈ WG := xWG (List.mem_of_getElem? (i := 938) (by decide +kernel)) (by decide +kernel)
theorem ck_X6_145 : xCal RX6 145 RX6 yX6_gaps cX6_gaps 7 (some .int) 1 := ⟨⟨wd_935, wd_937, wd_48, wd_65, wd_938⟩, rfl, by decide +kernel, by decide +kernel, by decide +kernel⟩
theorem wd_939 : (Jvm.Cond.methodLink "EchoLineModel" (148 : Nat) ({ cls := "EchoLineModel", name := "wordsOf", desc := "(I)I" } : Jvm.MethodName)) ∈ WG := xWG (List.mem_of_getElem? (i := 939) (by decide +kernel)) (by decide +kernel)
theorem wd_941 : (Jvm.Cond.instanceMethod ({ cls := "EchoLineModel", name := "wordsOf", desc := "(I)I" } : Jvm.MethodName)) ∈ WG := xWG (List.mem_of_getElem? (i := 941) (by decide +kernel)) (by decide +kernel)
theorem wd_49 : (Jvm.Cond.selects "EchoLineModel" ({ cls := "EchoLineModel", name := "wordsOf", desc := "(I)I" } : Jvm.MethodName) ({ cls := "EchoLineModel", name := "wordsOf", desc := "(I)I" } : Jvm.MethodName)) ∈ WG := xWG (List.mem_of_getElem? (i := 49) (by decide +kernel)) (by decide +kernel)
theorem wd_942 : (Jvm.Cond.code ({ cls := "EchoLineModel", name := "wordsOf", desc := "(I)I" } : Jvm.MethodName) prog_8_method_44_code (4 : Nat) (Option.some Jvm.ClassFile.FieldType.int)) ∈ WG := xWG (List.mem_of_getElem? (i := 942) (by decide +kernel)) (by decide +kernel)
theorem ck_X6_148 : xCal RX6 148 RX6 yX6_wordsOf cX6_wordsOf 4 (some .int) 1 := ⟨⟨wd_939, wd_941, wd_49, wd_65, wd_942⟩, rfl, by decide +kernel, by decide +kernel, by decide +kernel⟩
theorem wd_943 : (Jvm.Cond.methodLink "EchoLineModel" (151 : Nat) ({ cls := "EchoLineModel", name := "distinct", desc := "(I)I" } : Jvm.MethodName)) ∈ WG := xWG (List.mem_of_getElem? (i := 943) (by decide +kernel)) (by decide +kernel)
theorem wd_945 : (Jvm.Cond.instanceMethod ({ cls := "EchoLineModel", name := "distinct", desc := "(I)I" } : Jvm.MethodName)) ∈ WG := xWG (List.mem_of_getElem? (i := 945) (by decide +kernel)) (by decide +kernel)
theorem wd_50 : (Jvm.Cond.selects "EchoLineModel" ({ cls := "EchoLineModel", name := "distinct", desc := "(I)I" } : Jvm.MethodName) ({ cls := "EchoLineModel", name := "distinct", desc := "(I)I" } : Jvm.MethodName)) ∈ WG := xWG (List.mem_of_getElem? (i := 50) (by decide +kernel)) (by decide +kernel)
theorem wd_946 : (Jvm.Cond.code ({ cls := "EchoLineModel", name := "distinct", desc := "(I)I" } : Jvm.MethodName) prog_8_method_43_code (4 : Nat) (Option.some Jvm.ClassFile.FieldType.int)) ∈ WG := xWG (List.mem_of_getElem? (i := 946) (by decide +kernel)) (by decide +kernel)
theorem ck_X6_151 : xCal RX6 151 RX6 yX6_distinct cX6_distinct 4 (some .int) 1 := ⟨⟨wd_943, wd_945, wd_50, wd_65, wd_946⟩, rfl, by decide +kernel, by decide +kernel, by decide +kernel⟩
theorem wd_927 : (Jvm.Cond.methodLink "EchoLineModel" (154 : Nat) ({ cls := "EchoLineModel", name := "ofSpeaker", desc := "(II)I" } : Jvm.MethodName)) ∈ WG := xWG (List.mem_of_getElem? (i := 927) (by decide +kernel)) (by decide +kernel)
theorem wd_929 : (Jvm.Cond.instanceMethod ({ cls := "EchoLineModel", name := "ofSpeaker", desc := "(II)I" } : Jvm.MethodName)) ∈ WG := xWG (List.mem_of_getElem? (i := 929) (by decide +kernel)) (by decide +kernel)
theorem wd_46 : (Jvm.Cond.selects "EchoLineModel" ({ cls := "EchoLineModel", name := "ofSpeaker", desc := "(II)I" } : Jvm.MethodName) ({ cls := "EchoLineModel", name := "ofSpeaker", desc := "(II)I" } : Jvm.MethodName)) ∈ WG := xWG (List.mem_of_getElem? (i := 46) (by decide +kernel)) (by decide +kernel)
theorem wd_930 : (Jvm.Cond.code ({ cls := "EchoLineModel", name := "ofSpeaker", desc := "(II)I" } : Jvm.MethodName) prog_8_method_47_code (3 : Nat) (Option.some Jvm.ClassFile.FieldType.int)) ∈ WG := xWG (List.mem_of_getElem? (i := 930) (by decide +kernel)) (by decide +kernel)
theorem ck_X6_154 : xCal RX6 154 RX6 yX6_ofSpeaker cX6_ofSpeaker 3 (some .int) 2 := ⟨⟨wd_927, wd_929, wd_46, wd_65, wd_930⟩, rfl, by decide +kernel, by decide +kernel, by decide +kernel⟩
theorem wd_951 : (Jvm.Cond.methodLink "EchoLineModel" (157 : Nat) ({ cls := "EchoLineModel", name := "how", desc := "(III)I" } : Jvm.MethodName)) ∈ WG := xWG (List.mem_of_getElem? (i := 951) (by decide +kernel)) (by decide +kernel)
theorem wd_953 : (Jvm.Cond.instanceMethod ({ cls := "EchoLineModel", name := "how", desc := "(III)I" } : Jvm.MethodName)) ∈ WG := xWG (List.mem_of_getElem? (i := 953) (by decide +kernel)) (by decide +kernel)
theorem wd_51 : (Jvm.Cond.selects "EchoLineModel" ({ cls := "EchoLineModel", name := "how", desc := "(III)I" } : Jvm.MethodName) ({ cls := "EchoLineModel", name := "how", desc := "(III)I" } : Jvm.MethodName)) ∈ WG := xWG (List.mem_of_getElem? (i := 51) (by decide +kernel)) (by decide +kernel)
theorem wd_954 : (Jvm.Cond.code ({ cls := "EchoLineModel", name := "how", desc := "(III)I" } : Jvm.MethodName) prog_8_method_49_code (10 : Nat) (Option.some Jvm.ClassFile.FieldType.int)) ∈ WG := xWG (List.mem_of_getElem? (i := 954) (by decide +kernel)) (by decide +kernel)
theorem ck_X6_157 : xCal RX6 157 RX6 yX6_how cX6_how 10 (some .int) 3 := ⟨⟨wd_951, wd_953, wd_51, wd_65, wd_954⟩, rfl, by decide +kernel, by decide +kernel, by decide +kernel⟩
theorem wd_963 : (Jvm.Cond.methodLink "EchoLineModel" (160 : Nat) ({ cls := "EchoLineModel", name := "wordsHeardBy", desc := "(I)I" } : Jvm.MethodName)) ∈ WG := xWG (List.mem_of_getElem? (i := 963) (by decide +kernel)) (by decide +kernel)
theorem wd_965 : (Jvm.Cond.instanceMethod ({ cls := "EchoLineModel", name := "wordsHeardBy", desc := "(I)I" } : Jvm.MethodName)) ∈ WG := xWG (List.mem_of_getElem? (i := 965) (by decide +kernel)) (by decide +kernel)
theorem wd_53 : (Jvm.Cond.selects "EchoLineModel" ({ cls := "EchoLineModel", name := "wordsHeardBy", desc := "(I)I" } : Jvm.MethodName) ({ cls := "EchoLineModel", name := "wordsHeardBy", desc := "(I)I" } : Jvm.MethodName)) ∈ WG := xWG (List.mem_of_getElem? (i := 53) (by decide +kernel)) (by decide +kernel)
theorem wd_966 : (Jvm.Cond.code ({ cls := "EchoLineModel", name := "wordsHeardBy", desc := "(I)I" } : Jvm.MethodName) prog_8_method_51_code (4 : Nat) (Option.some Jvm.ClassFile.FieldType.int)) ∈ WG := xWG (List.mem_of_getElem? (i := 966) (by decide +kernel)) (by decide +kernel)
theorem ck_X6_160 : xCal RX6 160 RX6 yX6_wordsHeardBy cX6_wordsHeardBy 4 (some .int) 1 := ⟨⟨wd_963, wd_965, wd_53, wd_65, wd_966⟩, rfl, by decide +kernel, by decide +kernel, by decide +kernel⟩
theorem wd_967 : (Jvm.Cond.methodLink "EchoLineModel" (163 : Nat) ({ cls := "EchoLineModel", name := "messages", desc := "(Z)I" } : Jvm.MethodName)) ∈ WG := xWG (List.mem_of_getElem? (i := 967) (by decide +kernel)) (by decide +kernel)
theorem wd_969 : (Jvm.Cond.instanceMethod ({ cls := "EchoLineModel", name := "messages", desc := "(Z)I" } : Jvm.MethodName)) ∈ WG := xWG (List.mem_of_getElem? (i := 969) (by decide +kernel)) (by decide +kernel)
theorem wd_54 : (Jvm.Cond.selects "EchoLineModel" ({ cls := "EchoLineModel", name := "messages", desc := "(Z)I" } : Jvm.MethodName) ({ cls := "EchoLineModel", name := "messages", desc := "(Z)I" } : Jvm.MethodName)) ∈ WG := xWG (List.mem_of_getElem? (i := 54) (by decide +kernel)) (by decide +kernel)
theorem wd_970 : (Jvm.Cond.code ({ cls := "EchoLineModel", name := "messages", desc := "(Z)I" } : Jvm.MethodName) prog_8_method_52_code (6 : Nat) (Option.some Jvm.ClassFile.FieldType.int)) ∈ WG := xWG (List.mem_of_getElem? (i := 970) (by decide +kernel)) (by decide +kernel)
theorem ck_X6_163 : xCal RX6 163 RX6 yX6_messages cX6_messages 6 (some .int) 1 := ⟨⟨wd_967, wd_969, wd_54, wd_65, wd_970⟩, rfl, by decide +kernel, by decide +kernel, by decide +kernel⟩
theorem wd_959 : (Jvm.Cond.methodLink "EchoLineModel" (167 : Nat) ({ cls := "EchoLineModel", name := "counted", desc := "(I)I" } : Jvm.MethodName)) ∈ WG := xWG (List.mem_of_getElem? (i := 959) (by decide +kernel)) (by decide +kernel)
theorem wd_961 : (Jvm.Cond.instanceMethod ({ cls := "EchoLineModel", name := "counted", desc := "(I)I" } : Jvm.MethodName)) ∈ WG := xWG (List.mem_of_getElem? (i := 961) (by decide +kernel)) (by decide +kernel)
theorem wd_52 : (Jvm.Cond.selects "EchoLineModel" ({ cls := "EchoLineModel", name := "counted", desc := "(I)I" } : Jvm.MethodName) ({ cls := "EchoLineModel", name := "counted", desc := "(I)I" } : Jvm.MethodName)) ∈ WG := xWG (List.mem_of_getElem? (i := 52) (by decide +kernel)) (by decide +kernel)
theorem wd_962 : (Jvm.Cond.code ({ cls := "EchoLineModel", name := "counted", desc := "(I)I" } : Jvm.MethodName) prog_8_method_53_code (2 : Nat) (Option.some Jvm.ClassFile.FieldType.int)) ∈ WG := xWG (List.mem_of_getElem? (i := 962) (by decide +kernel)) (by decide +kernel)
theorem ck_X6_167 : xCal RX6 167 RX6 yX6_counted cX6_counted 2 (some .int) 1 := ⟨⟨wd_959, wd_961, wd_52, wd_65, wd_962⟩, rfl, by decide +kernel, by decide +kernel, by decide +kernel⟩
theorem wd_975 : (Jvm.Cond.methodLink "EchoLineModel" (170 : Nat) ({ cls := "EchoLineModel", name := "reason", desc := "(II)I" } : Jvm.MethodName)) ∈ WG := xWG (List.mem_of_getElem? (i := 975) (by decide +kernel)) (by decide +kernel)
theorem wd_977 : (Jvm.Cond.instanceMethod ({ cls := "EchoLineModel", name := "reason", desc := "(II)I" } : Jvm.MethodName)) ∈ WG := xWG (List.mem_of_getElem? (i := 977) (by decide +kernel)) (by decide +kernel)
theorem wd_55 : (Jvm.Cond.selects "EchoLineModel" ({ cls := "EchoLineModel", name := "reason", desc := "(II)I" } : Jvm.MethodName) ({ cls := "EchoLineModel", name := "reason", desc := "(II)I" } : Jvm.MethodName)) ∈ WG := xWG (List.mem_of_getElem? (i := 55) (by decide +kernel)) (by decide +kernel)
theorem wd_978 : (Jvm.Cond.code ({ cls := "EchoLineModel", name := "reason", desc := "(II)I" } : Jvm.MethodName) prog_8_method_55_code (4 : Nat) (Option.some Jvm.ClassFile.FieldType.int)) ∈ WG := xWG (List.mem_of_getElem? (i := 978) (by decide +kernel)) (by decide +kernel)
theorem ck_X6_170 : xCal RX6 170 RX6 yX6_reason cX6_reason 4 (some .int) 2 := ⟨⟨wd_975, wd_977, wd_55, wd_65, wd_978⟩, rfl, by decide +kernel, by decide +kernel, by decide +kernel⟩
theorem wd_987 : (Jvm.Cond.methodLink "EchoLineModel" (173 : Nat) ({ cls := "EchoLineModel", name := "silentBeats", desc := "(II)I" } : Jvm.MethodName)) ∈ WG := xWG (List.mem_of_getElem? (i := 987) (by decide +kernel)) (by decide +kernel)
theorem wd_989 : (Jvm.Cond.instanceMethod ({ cls := "EchoLineModel", name := "silentBeats", desc := "(II)I" } : Jvm.MethodName)) ∈ WG := xWG (List.mem_of_getElem? (i := 989) (by decide +kernel)) (by decide +kernel)
theorem wd_56 : (Jvm.Cond.selects "EchoLineModel" ({ cls := "EchoLineModel", name := "silentBeats", desc := "(II)I" } : Jvm.MethodName) ({ cls := "EchoLineModel", name := "silentBeats", desc := "(II)I" } : Jvm.MethodName)) ∈ WG := xWG (List.mem_of_getElem? (i := 56) (by decide +kernel)) (by decide +kernel)
theorem wd_990 : (Jvm.Cond.code ({ cls := "EchoLineModel", name := "silentBeats", desc := "(II)I" } : Jvm.MethodName) prog_8_method_58_code (5 : Nat) (Option.some Jvm.ClassFile.FieldType.int)) ∈ WG := xWG (List.mem_of_getElem? (i := 990) (by decide +kernel)) (by decide +kernel)
theorem ck_X6_173 : xCal RX6 173 RX6 yX6_silentBeats cX6_silentBeats 5 (some .int) 2 := ⟨⟨wd_987, wd_989, wd_56, wd_65, wd_990⟩, rfl, by decide +kernel, by decide +kernel, by decide +kernel⟩
theorem wd_995 : (Jvm.Cond.methodLink "EchoLineModel" (176 : Nat) ({ cls := "EchoLineModel", name := "best", desc := "()I" } : Jvm.MethodName)) ∈ WG := xWG (List.mem_of_getElem? (i := 995) (by decide +kernel)) (by decide +kernel)
theorem wd_997 : (Jvm.Cond.instanceMethod ({ cls := "EchoLineModel", name := "best", desc := "()I" } : Jvm.MethodName)) ∈ WG := xWG (List.mem_of_getElem? (i := 997) (by decide +kernel)) (by decide +kernel)
theorem wd_57 : (Jvm.Cond.selects "EchoLineModel" ({ cls := "EchoLineModel", name := "best", desc := "()I" } : Jvm.MethodName) ({ cls := "EchoLineModel", name := "best", desc := "()I" } : Jvm.MethodName)) ∈ WG := xWG (List.mem_of_getElem? (i := 57) (by decide +kernel)) (by decide +kernel)
theorem wd_998 : (Jvm.Cond.code ({ cls := "EchoLineModel", name := "best", desc := "()I" } : Jvm.MethodName) prog_8_method_60_code (9 : Nat) (Option.some Jvm.ClassFile.FieldType.int)) ∈ WG := xWG (List.mem_of_getElem? (i := 998) (by decide +kernel)) (by decide +kernel)
theorem ck_X6_176 : xCal RX6 176 RX6 yX6_best cX6_best 9 (some .int) 0 := ⟨⟨wd_995, wd_997, wd_57, wd_65, wd_998⟩, rfl, by decide +kernel, by decide +kernel, by decide +kernel⟩
theorem wd_1003 : (Jvm.Cond.methodLink "EchoLineModel" (180 : Nat) ({ cls := "EchoLineModel", name := "share", desc := "()D" } : Jvm.MethodName)) ∈ WG := xWG (List.mem_of_getElem? (i := 1003) (by decide +kernel)) (by decide +kernel)
theorem wd_1005 : (Jvm.Cond.instanceMethod ({ cls := "EchoLineModel", name := "share", desc := "()D" } : Jvm.MethodName)) ∈ WG := xWG (List.mem_of_getElem? (i := 1005) (by decide +kernel)) (by decide +kernel)
theorem wd_58 : (Jvm.Cond.selects "EchoLineModel" ({ cls := "EchoLineModel", name := "share", desc := "()D" } : Jvm.MethodName) ({ cls := "EchoLineModel", name := "share", desc := "()D" } : Jvm.MethodName)) ∈ WG := xWG (List.mem_of_getElem? (i := 58) (by decide +kernel)) (by decide +kernel)
theorem wd_1006 : (Jvm.Cond.code ({ cls := "EchoLineModel", name := "share", desc := "()D" } : Jvm.MethodName) prog_8_method_62_code (3 : Nat) (Option.some Jvm.ClassFile.FieldType.double)) ∈ WG := xWG (List.mem_of_getElem? (i := 1006) (by decide +kernel)) (by decide +kernel)
theorem ck_X6_180 : xCal RX6 180 RX6 yX6_share cX6_share 3 (some .double) 0 := ⟨⟨wd_1003, wd_1005, wd_58, wd_65, wd_1006⟩, rfl, by decide +kernel, by decide +kernel, by decide +kernel⟩
theorem wd_1011 : (Jvm.Cond.constantLong "EchoLineModel" (184 : Nat) (3853 : Int64)) ∈ WG := xWG (List.mem_of_getElem? (i := 1011) (by decide +kernel)) (by decide +kernel)
theorem wd_1012 : (Jvm.Cond.constantLong "EchoLineModel" (186 : Nat) (31 : Int64)) ∈ WG := xWG (List.mem_of_getElem? (i := 1012) (by decide +kernel)) (by decide +kernel)
theorem wd_1013 : (Jvm.Cond.methodLink "EchoLineModel" (188 : Nat) ({ cls := "java/lang/Double", name := "doubleToLongBits", desc := "(D)J" } : Jvm.MethodName)) ∈ WG := xWG (List.mem_of_getElem? (i := 1013) (by decide +kernel)) (by decide +kernel)
theorem wd_1014 : (Jvm.Cond.static ({ cls := "java/lang/Double", name := "doubleToLongBits", desc := "(D)J" } : Jvm.MethodName)) ∈ WG := xWG (List.mem_of_getElem? (i := 1014) (by decide +kernel)) (by decide +kernel)
theorem wd_75 : (Jvm.Cond.initialized "java/lang/Double") ∈ WG := xWG (List.mem_of_getElem? (i := 75) (by decide +kernel)) (by decide +kernel)
theorem wd_1015 : (Jvm.Cond.code ({ cls := "java/lang/Double", name := "doubleToLongBits", desc := "(D)J" } : Jvm.MethodName) prog_9_method_23_code (2 : Nat) (Option.some Jvm.ClassFile.FieldType.long)) ∈ WG := xWG (List.mem_of_getElem? (i := 1015) (by decide +kernel)) (by decide +kernel)
theorem wd_414 : (Jvm.Cond.methodLink "EchoLineLaw" (7 : Nat) ({ cls := "EchoLine", name := "say", desc := "(III)I" } : Jvm.MethodName)) ∈ WG := xWG (List.mem_of_getElem? (i := 414) (by decide +kernel)) (by decide +kernel)
theorem wd_415 : (Jvm.Cond.instanceMethod ({ cls := "EchoLine", name := "say", desc := "(III)I" } : Jvm.MethodName)) ∈ WG := xWG (List.mem_of_getElem? (i := 415) (by decide +kernel)) (by decide +kernel)
theorem wd_416 : (Jvm.Cond.selects "EchoLine" ({ cls := "EchoLine", name := "say", desc := "(III)I" } : Jvm.MethodName) ({ cls := "EchoLine", name := "say", desc := "(III)I" } : Jvm.MethodName)) ∈ WG := xWG (List.mem_of_getElem? (i := 416) (by decide +kernel)) (by decide +kernel)
theorem wd_417 : (Jvm.Cond.code ({ cls := "EchoLine", name := "say", desc := "(III)I" } : Jvm.MethodName) prog_1_method_2_code (4 : Nat) (Option.some Jvm.ClassFile.FieldType.int)) ∈ WG := xWG (List.mem_of_getElem? (i := 417) (by decide +kernel)) (by decide +kernel)
theorem ck_L_7 : xCal RL 7 RX5 yX5_say cX5_say 4 (some .int) 3 := ⟨⟨wd_414, wd_415, wd_416, wd_60, wd_417⟩, rfl, by decide +kernel, by decide +kernel, by decide +kernel⟩
theorem wd_553 : (Jvm.Cond.methodLink "EchoLineLaw" (19 : Nat) ({ cls := "EchoLine", name := "pass", desc := "(I)I" } : Jvm.MethodName)) ∈ WG := xWG (List.mem_of_getElem? (i := 553) (by decide +kernel)) (by decide +kernel)
theorem wd_554 : (Jvm.Cond.instanceMethod ({ cls := "EchoLine", name := "pass", desc := "(I)I" } : Jvm.MethodName)) ∈ WG := xWG (List.mem_of_getElem? (i := 554) (by decide +kernel)) (by decide +kernel)
theorem wd_555 : (Jvm.Cond.selects "EchoLine" ({ cls := "EchoLine", name := "pass", desc := "(I)I" } : Jvm.MethodName) ({ cls := "EchoLine", name := "pass", desc := "(I)I" } : Jvm.MethodName)) ∈ WG := xWG (List.mem_of_getElem? (i := 555) (by decide +kernel)) (by decide +kernel)
theorem wd_556 : (Jvm.Cond.code ({ cls := "EchoLine", name := "pass", desc := "(I)I" } : Jvm.MethodName) prog_1_method_3_code (2 : Nat) (Option.some Jvm.ClassFile.FieldType.int)) ∈ WG := xWG (List.mem_of_getElem? (i := 556) (by decide +kernel)) (by decide +kernel)
theorem ck_L_19 : xCal RL 19 RX5 yX5_pass cX5_pass 2 (some .int) 1 := ⟨⟨wd_553, wd_554, wd_555, wd_60, wd_556⟩, rfl, by decide +kernel, by decide +kernel, by decide +kernel⟩
theorem wd_569 : (Jvm.Cond.methodLink "EchoLineLaw" (23 : Nat) ({ cls := "EchoLine", name := "wall", desc := "(II)I" } : Jvm.MethodName)) ∈ WG := xWG (List.mem_of_getElem? (i := 569) (by decide +kernel)) (by decide +kernel)
theorem wd_570 : (Jvm.Cond.instanceMethod ({ cls := "EchoLine", name := "wall", desc := "(II)I" } : Jvm.MethodName)) ∈ WG := xWG (List.mem_of_getElem? (i := 570) (by decide +kernel)) (by decide +kernel)
theorem wd_571 : (Jvm.Cond.selects "EchoLine" ({ cls := "EchoLine", name := "wall", desc := "(II)I" } : Jvm.MethodName) ({ cls := "EchoLine", name := "wall", desc := "(II)I" } : Jvm.MethodName)) ∈ WG := xWG (List.mem_of_getElem? (i := 571) (by decide +kernel)) (by decide +kernel)
theorem wd_572 : (Jvm.Cond.code ({ cls := "EchoLine", name := "wall", desc := "(II)I" } : Jvm.MethodName) prog_1_method_4_code (4 : Nat) (Option.some Jvm.ClassFile.FieldType.int)) ∈ WG := xWG (List.mem_of_getElem? (i := 572) (by decide +kernel)) (by decide +kernel)
theorem ck_L_23 : xCal RL 23 RX5 yX5_wall cX5_wall 4 (some .int) 2 := ⟨⟨wd_569, wd_570, wd_571, wd_60, wd_572⟩, rfl, by decide +kernel, by decide +kernel, by decide +kernel⟩
theorem wd_576 : (Jvm.Cond.methodLink "EchoLineLaw" (27 : Nat) ({ cls := "EchoLine", name := "set", desc := "(II)I" } : Jvm.MethodName)) ∈ WG := xWG (List.mem_of_getElem? (i := 576) (by decide +kernel)) (by decide +kernel)
theorem wd_577 : (Jvm.Cond.instanceMethod ({ cls := "EchoLine", name := "set", desc := "(II)I" } : Jvm.MethodName)) ∈ WG := xWG (List.mem_of_getElem? (i := 577) (by decide +kernel)) (by decide +kernel)
theorem wd_578 : (Jvm.Cond.selects "EchoLine" ({ cls := "EchoLine", name := "set", desc := "(II)I" } : Jvm.MethodName) ({ cls := "EchoLine", name := "set", desc := "(II)I" } : Jvm.MethodName)) ∈ WG := xWG (List.mem_of_getElem? (i := 578) (by decide +kernel)) (by decide +kernel)
theorem wd_579 : (Jvm.Cond.code ({ cls := "EchoLine", name := "set", desc := "(II)I" } : Jvm.MethodName) prog_1_method_5_code (4 : Nat) (Option.some Jvm.ClassFile.FieldType.int)) ∈ WG := xWG (List.mem_of_getElem? (i := 579) (by decide +kernel)) (by decide +kernel)
theorem ck_L_27 : xCal RL 27 RX5 yX5_set cX5_set 4 (some .int) 2 := ⟨⟨wd_576, wd_577, wd_578, wd_60, wd_579⟩, rfl, by decide +kernel, by decide +kernel, by decide +kernel⟩
theorem wd_588 : (Jvm.Cond.methodLink "EchoLineLaw" (30 : Nat) ({ cls := "EchoLine", name := "append", desc := "(I)I" } : Jvm.MethodName)) ∈ WG := xWG (List.mem_of_getElem? (i := 588) (by decide +kernel)) (by decide +kernel)
theorem wd_589 : (Jvm.Cond.instanceMethod ({ cls := "EchoLine", name := "append", desc := "(I)I" } : Jvm.MethodName)) ∈ WG := xWG (List.mem_of_getElem? (i := 589) (by decide +kernel)) (by decide +kernel)
theorem wd_590 : (Jvm.Cond.selects "EchoLine" ({ cls := "EchoLine", name := "append", desc := "(I)I" } : Jvm.MethodName) ({ cls := "EchoLine", name := "append", desc := "(I)I" } : Jvm.MethodName)) ∈ WG := xWG (List.mem_of_getElem? (i := 590) (by decide +kernel)) (by decide +kernel)
theorem wd_591 : (Jvm.Cond.code ({ cls := "EchoLine", name := "append", desc := "(I)I" } : Jvm.MethodName) prog_1_method_6_code (2 : Nat) (Option.some Jvm.ClassFile.FieldType.int)) ∈ WG := xWG (List.mem_of_getElem? (i := 591) (by decide +kernel)) (by decide +kernel)
theorem ck_L_30 : xCal RL 30 RX5 yX5_append cX5_append 2 (some .int) 1 := ⟨⟨wd_588, wd_589, wd_590, wd_60, wd_591⟩, rfl, by decide +kernel, by decide +kernel, by decide +kernel⟩
theorem wd_600 : (Jvm.Cond.methodLink "EchoLineLaw" (33 : Nat) ({ cls := "EchoLine", name := "talk", desc := "()I" } : Jvm.MethodName)) ∈ WG := xWG (List.mem_of_getElem? (i := 600) (by decide +kernel)) (by decide +kernel)
theorem wd_601 : (Jvm.Cond.instanceMethod ({ cls := "EchoLine", name := "talk", desc := "()I" } : Jvm.MethodName)) ∈ WG := xWG (List.mem_of_getElem? (i := 601) (by decide +kernel)) (by decide +kernel)
theorem wd_602 : (Jvm.Cond.selects "EchoLine" ({ cls := "EchoLine", name := "talk", desc := "()I" } : Jvm.MethodName) ({ cls := "EchoLine", name := "talk", desc := "()I" } : Jvm.MethodName)) ∈ WG := xWG (List.mem_of_getElem? (i := 602) (by decide +kernel)) (by decide +kernel)
theorem wd_603 : (Jvm.Cond.code ({ cls := "EchoLine", name := "talk", desc := "()I" } : Jvm.MethodName) prog_1_method_9_code (2 : Nat) (Option.some Jvm.ClassFile.FieldType.int)) ∈ WG := xWG (List.mem_of_getElem? (i := 603) (by decide +kernel)) (by decide +kernel)
theorem ck_L_33 : xCal RL 33 RX5 yX5_talk cX5_talk 2 (some .int) 0 := ⟨⟨wd_600, wd_601, wd_602, wd_60, wd_603⟩, rfl, by decide +kernel, by decide +kernel, by decide +kernel⟩
theorem wd_631 : (Jvm.Cond.methodLink "EchoLineLaw" (37 : Nat) ({ cls := "EchoLine", name := "undo", desc := "()I" } : Jvm.MethodName)) ∈ WG := xWG (List.mem_of_getElem? (i := 631) (by decide +kernel)) (by decide +kernel)
theorem wd_632 : (Jvm.Cond.instanceMethod ({ cls := "EchoLine", name := "undo", desc := "()I" } : Jvm.MethodName)) ∈ WG := xWG (List.mem_of_getElem? (i := 632) (by decide +kernel)) (by decide +kernel)
theorem wd_633 : (Jvm.Cond.selects "EchoLine" ({ cls := "EchoLine", name := "undo", desc := "()I" } : Jvm.MethodName) ({ cls := "EchoLine", name := "undo", desc := "()I" } : Jvm.MethodName)) ∈ WG := xWG (List.mem_of_getElem? (i := 633) (by decide +kernel)) (by decide +kernel)
theorem wd_634 : (Jvm.Cond.code ({ cls := "EchoLine", name := "undo", desc := "()I" } : Jvm.MethodName) prog_1_method_10_code (2 : Nat) (Option.some Jvm.ClassFile.FieldType.int)) ∈ WG := xWG (List.mem_of_getElem? (i := 634) (by decide +kernel)) (by decide +kernel)
theorem ck_L_37 : xCal RL 37 RX5 yX5_undo cX5_undo 2 (some .int) 0 := ⟨⟨wd_631, wd_632, wd_633, wd_60, wd_634⟩, rfl, by decide +kernel, by decide +kernel, by decide +kernel⟩
theorem wd_647 : (Jvm.Cond.methodLink "EchoLineLaw" (40 : Nat) ({ cls := "EchoLine", name := "restore", desc := "()I" } : Jvm.MethodName)) ∈ WG := xWG (List.mem_of_getElem? (i := 647) (by decide +kernel)) (by decide +kernel)
theorem wd_648 : (Jvm.Cond.instanceMethod ({ cls := "EchoLine", name := "restore", desc := "()I" } : Jvm.MethodName)) ∈ WG := xWG (List.mem_of_getElem? (i := 648) (by decide +kernel)) (by decide +kernel)
theorem wd_649 : (Jvm.Cond.selects "EchoLine" ({ cls := "EchoLine", name := "restore", desc := "()I" } : Jvm.MethodName) ({ cls := "EchoLine", name := "restore", desc := "()I" } : Jvm.MethodName)) ∈ WG := xWG (List.mem_of_getElem? (i := 649) (by decide +kernel)) (by decide +kernel)
theorem wd_650 : (Jvm.Cond.code ({ cls := "EchoLine", name := "restore", desc := "()I" } : Jvm.MethodName) prog_1_method_12_code (1 : Nat) (Option.some Jvm.ClassFile.FieldType.int)) ∈ WG := xWG (List.mem_of_getElem? (i := 650) (by decide +kernel)) (by decide +kernel)
theorem ck_L_40 : xCal RL 40 RX5 yX5_restore cX5_restore 1 (some .int) 0 := ⟨⟨wd_647, wd_648, wd_649, wd_60, wd_650⟩, rfl, by decide +kernel, by decide +kernel, by decide +kernel⟩
theorem wd_655 : (Jvm.Cond.methodLink "EchoLineLaw" (43 : Nat) ({ cls := "EchoLine", name := "said", desc := "(II)I" } : Jvm.MethodName)) ∈ WG := xWG (List.mem_of_getElem? (i := 655) (by decide +kernel)) (by decide +kernel)
theorem wd_656 : (Jvm.Cond.instanceMethod ({ cls := "EchoLine", name := "said", desc := "(II)I" } : Jvm.MethodName)) ∈ WG := xWG (List.mem_of_getElem? (i := 656) (by decide +kernel)) (by decide +kernel)
theorem wd_657 : (Jvm.Cond.selects "EchoLine" ({ cls := "EchoLine", name := "said", desc := "(II)I" } : Jvm.MethodName) ({ cls := "EchoLine", name := "said", desc := "(II)I" } : Jvm.MethodName)) ∈ WG := xWG (List.mem_of_getElem? (i := 657) (by decide +kernel)) (by decide +kernel)
theorem wd_658 : (Jvm.Cond.code ({ cls := "EchoLine", name := "said", desc := "(II)I" } : Jvm.MethodName) prog_1_method_13_code (3 : Nat) (Option.some Jvm.ClassFile.FieldType.int)) ∈ WG := xWG (List.mem_of_getElem? (i := 658) (by decide +kernel)) (by decide +kernel)
theorem ck_L_43 : xCal RL 43 RX5 yX5_said cX5_said 3 (some .int) 2 := ⟨⟨wd_655, wd_656, wd_657, wd_60, wd_658⟩, rfl, by decide +kernel, by decide +kernel, by decide +kernel⟩
theorem wd_662 : (Jvm.Cond.methodLink "EchoLineLaw" (46 : Nat) ({ cls := "EchoLine", name := "comes", desc := "(II)I" } : Jvm.MethodName)) ∈ WG := xWG (List.mem_of_getElem? (i := 662) (by decide +kernel)) (by decide +kernel)
theorem wd_663 : (Jvm.Cond.instanceMethod ({ cls := "EchoLine", name := "comes", desc := "(II)I" } : Jvm.MethodName)) ∈ WG := xWG (List.mem_of_getElem? (i := 663) (by decide +kernel)) (by decide +kernel)
theorem wd_664 : (Jvm.Cond.selects "EchoLine" ({ cls := "EchoLine", name := "comes", desc := "(II)I" } : Jvm.MethodName) ({ cls := "EchoLine", name := "comes", desc := "(II)I" } : Jvm.MethodName)) ∈ WG := xWG (List.mem_of_getElem? (i := 664) (by decide +kernel)) (by decide +kernel)
theorem wd_665 : (Jvm.Cond.code ({ cls := "EchoLine", name := "comes", desc := "(II)I" } : Jvm.MethodName) prog_1_method_14_code (3 : Nat) (Option.some Jvm.ClassFile.FieldType.int)) ∈ WG := xWG (List.mem_of_getElem? (i := 665) (by decide +kernel)) (by decide +kernel)
theorem ck_L_46 : xCal RL 46 RX5 yX5_comes cX5_comes 3 (some .int) 2 := ⟨⟨wd_662, wd_663, wd_664, wd_60, wd_665⟩, rfl, by decide +kernel, by decide +kernel, by decide +kernel⟩
theorem wd_669 : (Jvm.Cond.methodLink "EchoLineLaw" (49 : Nat) ({ cls := "EchoLine", name := "heard", desc := "(III)I" } : Jvm.MethodName)) ∈ WG := xWG (List.mem_of_getElem? (i := 669) (by decide +kernel)) (by decide +kernel)
theorem wd_670 : (Jvm.Cond.instanceMethod ({ cls := "EchoLine", name := "heard", desc := "(III)I" } : Jvm.MethodName)) ∈ WG := xWG (List.mem_of_getElem? (i := 670) (by decide +kernel)) (by decide +kernel)
theorem wd_671 : (Jvm.Cond.selects "EchoLine" ({ cls := "EchoLine", name := "heard", desc := "(III)I" } : Jvm.MethodName) ({ cls := "EchoLine", name := "heard", desc := "(III)I" } : Jvm.MethodName)) ∈ WG := xWG (List.mem_of_getElem? (i := 671) (by decide +kernel)) (by decide +kernel)
theorem wd_672 : (Jvm.Cond.code ({ cls := "EchoLine", name := "heard", desc := "(III)I" } : Jvm.MethodName) prog_1_method_15_code (4 : Nat) (Option.some Jvm.ClassFile.FieldType.int)) ∈ WG := xWG (List.mem_of_getElem? (i := 672) (by decide +kernel)) (by decide +kernel)
theorem ck_L_49 : xCal RL 49 RX5 yX5_heard cX5_heard 4 (some .int) 3 := ⟨⟨wd_669, wd_670, wd_671, wd_60, wd_672⟩, rfl, by decide +kernel, by decide +kernel, by decide +kernel⟩
theorem wd_676 : (Jvm.Cond.methodLink "EchoLineLaw" (52 : Nat) ({ cls := "EchoLine", name := "speaker", desc := "(II)I" } : Jvm.MethodName)) ∈ WG := xWG (List.mem_of_getElem? (i := 676) (by decide +kernel)) (by decide +kernel)
theorem wd_677 : (Jvm.Cond.instanceMethod ({ cls := "EchoLine", name := "speaker", desc := "(II)I" } : Jvm.MethodName)) ∈ WG := xWG (List.mem_of_getElem? (i := 677) (by decide +kernel)) (by decide +kernel)
theorem wd_678 : (Jvm.Cond.selects "EchoLine" ({ cls := "EchoLine", name := "speaker", desc := "(II)I" } : Jvm.MethodName) ({ cls := "EchoLine", name := "speaker", desc := "(II)I" } : Jvm.MethodName)) ∈ WG := xWG (List.mem_of_getElem? (i := 678) (by decide +kernel)) (by decide +kernel)
theorem wd_679 : (Jvm.Cond.code ({ cls := "EchoLine", name := "speaker", desc := "(II)I" } : Jvm.MethodName) prog_1_method_16_code (3 : Nat) (Option.some Jvm.ClassFile.FieldType.int)) ∈ WG := xWG (List.mem_of_getElem? (i := 679) (by decide +kernel)) (by decide +kernel)
theorem ck_L_52 : xCal RL 52 RX5 yX5_speaker cX5_speaker 3 (some .int) 2 := ⟨⟨wd_676, wd_677, wd_678, wd_60, wd_679⟩, rfl, by decide +kernel, by decide +kernel, by decide +kernel⟩
theorem wd_683 : (Jvm.Cond.methodLink "EchoLineLaw" (55 : Nat) ({ cls := "EchoLine", name := "message", desc := "(III)I" } : Jvm.MethodName)) ∈ WG := xWG (List.mem_of_getElem? (i := 683) (by decide +kernel)) (by decide +kernel)
theorem wd_684 : (Jvm.Cond.instanceMethod ({ cls := "EchoLine", name := "message", desc := "(III)I" } : Jvm.MethodName)) ∈ WG := xWG (List.mem_of_getElem? (i := 684) (by decide +kernel)) (by decide +kernel)
theorem wd_685 : (Jvm.Cond.selects "EchoLine" ({ cls := "EchoLine", name := "message", desc := "(III)I" } : Jvm.MethodName) ({ cls := "EchoLine", name := "message", desc := "(III)I" } : Jvm.MethodName)) ∈ WG := xWG (List.mem_of_getElem? (i := 685) (by decide +kernel)) (by decide +kernel)
theorem wd_686 : (Jvm.Cond.code ({ cls := "EchoLine", name := "message", desc := "(III)I" } : Jvm.MethodName) prog_1_method_17_code (4 : Nat) (Option.some Jvm.ClassFile.FieldType.int)) ∈ WG := xWG (List.mem_of_getElem? (i := 686) (by decide +kernel)) (by decide +kernel)
theorem ck_L_55 : xCal RL 55 RX5 yX5_message cX5_message 4 (some .int) 3 := ⟨⟨wd_683, wd_684, wd_685, wd_60, wd_686⟩, rfl, by decide +kernel, by decide +kernel, by decide +kernel⟩
theorem wd_690 : (Jvm.Cond.methodLink "EchoLineLaw" (58 : Nat) ({ cls := "EchoLine", name := "count", desc := "(I)I" } : Jvm.MethodName)) ∈ WG := xWG (List.mem_of_getElem? (i := 690) (by decide +kernel)) (by decide +kernel)
theorem wd_691 : (Jvm.Cond.instanceMethod ({ cls := "EchoLine", name := "count", desc := "(I)I" } : Jvm.MethodName)) ∈ WG := xWG (List.mem_of_getElem? (i := 691) (by decide +kernel)) (by decide +kernel)
theorem wd_692 : (Jvm.Cond.selects "EchoLine" ({ cls := "EchoLine", name := "count", desc := "(I)I" } : Jvm.MethodName) ({ cls := "EchoLine", name := "count", desc := "(I)I" } : Jvm.MethodName)) ∈ WG := xWG (List.mem_of_getElem? (i := 692) (by decide +kernel)) (by decide +kernel)
theorem wd_693 : (Jvm.Cond.code ({ cls := "EchoLine", name := "count", desc := "(I)I" } : Jvm.MethodName) prog_1_method_18_code (2 : Nat) (Option.some Jvm.ClassFile.FieldType.int)) ∈ WG := xWG (List.mem_of_getElem? (i := 693) (by decide +kernel)) (by decide +kernel)
theorem ck_L_58 : xCal RL 58 RX5 yX5_count cX5_count 2 (some .int) 1 := ⟨⟨wd_690, wd_691, wd_692, wd_60, wd_693⟩, rfl, by decide +kernel, by decide +kernel, by decide +kernel⟩
theorem wd_697 : (Jvm.Cond.methodLink "EchoLineLaw" (61 : Nat) ({ cls := "EchoLine", name := "whyNot", desc := "(II)I" } : Jvm.MethodName)) ∈ WG := xWG (List.mem_of_getElem? (i := 697) (by decide +kernel)) (by decide +kernel)
theorem wd_698 : (Jvm.Cond.instanceMethod ({ cls := "EchoLine", name := "whyNot", desc := "(II)I" } : Jvm.MethodName)) ∈ WG := xWG (List.mem_of_getElem? (i := 698) (by decide +kernel)) (by decide +kernel)
theorem wd_699 : (Jvm.Cond.selects "EchoLine" ({ cls := "EchoLine", name := "whyNot", desc := "(II)I" } : Jvm.MethodName) ({ cls := "EchoLine", name := "whyNot", desc := "(II)I" } : Jvm.MethodName)) ∈ WG := xWG (List.mem_of_getElem? (i := 699) (by decide +kernel)) (by decide +kernel)
theorem wd_700 : (Jvm.Cond.code ({ cls := "EchoLine", name := "whyNot", desc := "(II)I" } : Jvm.MethodName) prog_1_method_19_code (3 : Nat) (Option.some Jvm.ClassFile.FieldType.int)) ∈ WG := xWG (List.mem_of_getElem? (i := 700) (by decide +kernel)) (by decide +kernel)
theorem ck_L_61 : xCal RL 61 RX5 yX5_whyNot cX5_whyNot 3 (some .int) 2 := ⟨⟨wd_697, wd_698, wd_699, wd_60, wd_700⟩, rfl, by decide +kernel, by decide +kernel, by decide +kernel⟩
theorem wd_704 : (Jvm.Cond.methodLink "EchoLineLaw" (64 : Nat) ({ cls := "EchoLine", name := "ifSilent", desc := "(I)I" } : Jvm.MethodName)) ∈ WG := xWG (List.mem_of_getElem? (i := 704) (by decide +kernel)) (by decide +kernel)
theorem wd_705 : (Jvm.Cond.instanceMethod ({ cls := "EchoLine", name := "ifSilent", desc := "(I)I" } : Jvm.MethodName)) ∈ WG := xWG (List.mem_of_getElem? (i := 705) (by decide +kernel)) (by decide +kernel)
theorem wd_706 : (Jvm.Cond.selects "EchoLine" ({ cls := "EchoLine", name := "ifSilent", desc := "(I)I" } : Jvm.MethodName) ({ cls := "EchoLine", name := "ifSilent", desc := "(I)I" } : Jvm.MethodName)) ∈ WG := xWG (List.mem_of_getElem? (i := 706) (by decide +kernel)) (by decide +kernel)
theorem wd_707 : (Jvm.Cond.code ({ cls := "EchoLine", name := "ifSilent", desc := "(I)I" } : Jvm.MethodName) prog_1_method_20_code (2 : Nat) (Option.some Jvm.ClassFile.FieldType.int)) ∈ WG := xWG (List.mem_of_getElem? (i := 707) (by decide +kernel)) (by decide +kernel)
theorem ck_L_64 : xCal RL 64 RX5 yX5_ifSilent cX5_ifSilent 2 (some .int) 1 := ⟨⟨wd_704, wd_705, wd_706, wd_60, wd_707⟩, rfl, by decide +kernel, by decide +kernel, by decide +kernel⟩
theorem wd_711 : (Jvm.Cond.methodLink "EchoLineLaw" (67 : Nat) ({ cls := "EchoLine", name := "heardIn", desc := "(II)I" } : Jvm.MethodName)) ∈ WG := xWG (List.mem_of_getElem? (i := 711) (by decide +kernel)) (by decide +kernel)
theorem wd_712 : (Jvm.Cond.instanceMethod ({ cls := "EchoLine", name := "heardIn", desc := "(II)I" } : Jvm.MethodName)) ∈ WG := xWG (List.mem_of_getElem? (i := 712) (by decide +kernel)) (by decide +kernel)
theorem wd_713 : (Jvm.Cond.selects "EchoLine" ({ cls := "EchoLine", name := "heardIn", desc := "(II)I" } : Jvm.MethodName) ({ cls := "EchoLine", name := "heardIn", desc := "(II)I" } : Jvm.MethodName)) ∈ WG := xWG (List.mem_of_getElem? (i := 713) (by decide +kernel)) (by decide +kernel)
theorem wd_714 : (Jvm.Cond.code ({ cls := "EchoLine", name := "heardIn", desc := "(II)I" } : Jvm.MethodName) prog_1_method_21_code (3 : Nat) (Option.some Jvm.ClassFile.FieldType.int)) ∈ WG := xWG (List.mem_of_getElem? (i := 714) (by decide +kernel)) (by decide +kernel)
theorem ck_L_67 : xCal RL 67 RX5 yX5_heardIn cX5_heardIn 3 (some .int) 2 := ⟨⟨wd_711, wd_712, wd_713, wd_60, wd_714⟩, rfl, by decide +kernel, by decide +kernel, by decide +kernel⟩
theorem wd_76 : (Jvm.Cond.classLink "EchoLineLaw" (8 : Nat) "EchoLine") ∈ WG := xWG (List.mem_of_getElem? (i := 76) (by decide +kernel)) (by decide +kernel)
theorem wd_77 : (Jvm.Cond.instantiable "EchoLine" (5 : Nat)) ∈ WG := xWG (List.mem_of_getElem? (i := 77) (by decide +kernel)) (by decide +kernel)
theorem wd_78 : (Jvm.Cond.methodLink "EchoLineLaw" (70 : Nat) ({ cls := "EchoLine", name := "<init>", desc := "()V" } : Jvm.MethodName)) ∈ WG := xWG (List.mem_of_getElem? (i := 78) (by decide +kernel)) (by decide +kernel)
theorem wd_79 : (Jvm.Cond.instanceMethod ({ cls := "EchoLine", name := "<init>", desc := "()V" } : Jvm.MethodName)) ∈ WG := xWG (List.mem_of_getElem? (i := 79) (by decide +kernel)) (by decide +kernel)
theorem wd_80 : (Jvm.Cond.code ({ cls := "EchoLine", name := "<init>", desc := "()V" } : Jvm.MethodName) prog_1_method_1_code (2 : Nat) (Option.none : Option Jvm.ClassFile.FieldType)) ∈ WG := xWG (List.mem_of_getElem? (i := 80) (by decide +kernel)) (by decide +kernel)
theorem ck_L_70 : xCaI RL 70 yX5_init cX5_init 2 0 := ⟨⟨wd_78, wd_79, wd_60, wd_80⟩, rfl, by decide +kernel, by decide +kernel, by decide +kernel⟩
theorem wd_715 : (Jvm.Cond.classLink "EchoLineLaw" (71 : Nat) "EchoLineModel") ∈ WG := xWG (List.mem_of_getElem? (i := 715) (by decide +kernel)) (by decide +kernel)
theorem wd_716 : (Jvm.Cond.instantiable "EchoLineModel" (13 : Nat)) ∈ WG := xWG (List.mem_of_getElem? (i := 716) (by decide +kernel)) (by decide +kernel)
theorem wd_717 : (Jvm.Cond.methodLink "EchoLineLaw" (73 : Nat) ({ cls := "EchoLineModel", name := "<init>", desc := "()V" } : Jvm.MethodName)) ∈ WG := xWG (List.mem_of_getElem? (i := 717) (by decide +kernel)) (by decide +kernel)
theorem wd_718 : (Jvm.Cond.instanceMethod ({ cls := "EchoLineModel", name := "<init>", desc := "()V" } : Jvm.MethodName)) ∈ WG := xWG (List.mem_of_getElem? (i := 718) (by decide +kernel)) (by decide +kernel)
theorem wd_719 : (Jvm.Cond.code ({ cls := "EchoLineModel", name := "<init>", desc := "()V" } : Jvm.MethodName) prog_8_method_1_code (1 : Nat) (Option.none : Option Jvm.ClassFile.FieldType)) ∈ WG := xWG (List.mem_of_getElem? (i := 719) (by decide +kernel)) (by decide +kernel)
theorem ck_L_73 : xCaI RL 73 yX6_init cX6_init 1 0 := ⟨⟨wd_717, wd_718, wd_65, wd_719⟩, rfl, by decide +kernel, by decide +kernel, by decide +kernel⟩
theorem wd_1023 : (Jvm.Cond.arrayClass Jvm.ClassFile.FieldType.long) ∈ WG := xWG (List.mem_of_getElem? (i := 1023) (by decide +kernel)) (by decide +kernel)
theorem wd_766 : (Jvm.Cond.methodLink "EchoLineLaw" (79 : Nat) ({ cls := "EchoLineModel", name := "say", desc := "(III)I" } : Jvm.MethodName)) ∈ WG := xWG (List.mem_of_getElem? (i := 766) (by decide +kernel)) (by decide +kernel)
theorem wd_767 : (Jvm.Cond.instanceMethod ({ cls := "EchoLineModel", name := "say", desc := "(III)I" } : Jvm.MethodName)) ∈ WG := xWG (List.mem_of_getElem? (i := 767) (by decide +kernel)) (by decide +kernel)
theorem wd_768 : (Jvm.Cond.selects "EchoLineModel" ({ cls := "EchoLineModel", name := "say", desc := "(III)I" } : Jvm.MethodName) ({ cls := "EchoLineModel", name := "say", desc := "(III)I" } : Jvm.MethodName)) ∈ WG := xWG (List.mem_of_getElem? (i := 768) (by decide +kernel)) (by decide +kernel)
theorem wd_769 : (Jvm.Cond.code ({ cls := "EchoLineModel", name := "say", desc := "(III)I" } : Jvm.MethodName) prog_8_method_16_code (4 : Nat) (Option.some Jvm.ClassFile.FieldType.int)) ∈ WG := xWG (List.mem_of_getElem? (i := 769) (by decide +kernel)) (by decide +kernel)
theorem ck_L_79 : xCal RL 79 RX6 yX6_say cX6_say 4 (some .int) 3 := ⟨⟨wd_766, wd_767, wd_768, wd_65, wd_769⟩, rfl, by decide +kernel, by decide +kernel, by decide +kernel⟩
theorem wd_762 : (Jvm.Cond.methodLink "EchoLineLaw" (80 : Nat) ({ cls := "EchoLineModel", name := "thrown", desc := "()I" } : Jvm.MethodName)) ∈ WG := xWG (List.mem_of_getElem? (i := 762) (by decide +kernel)) (by decide +kernel)
theorem wd_763 : (Jvm.Cond.instanceMethod ({ cls := "EchoLineModel", name := "thrown", desc := "()I" } : Jvm.MethodName)) ∈ WG := xWG (List.mem_of_getElem? (i := 763) (by decide +kernel)) (by decide +kernel)
theorem wd_764 : (Jvm.Cond.selects "EchoLineModel" ({ cls := "EchoLineModel", name := "thrown", desc := "()I" } : Jvm.MethodName) ({ cls := "EchoLineModel", name := "thrown", desc := "()I" } : Jvm.MethodName)) ∈ WG := xWG (List.mem_of_getElem? (i := 764) (by decide +kernel)) (by decide +kernel)
theorem wd_765 : (Jvm.Cond.code ({ cls := "EchoLineModel", name := "thrown", desc := "()I" } : Jvm.MethodName) prog_8_method_2_code (1 : Nat) (Option.some Jvm.ClassFile.FieldType.int)) ∈ WG := xWG (List.mem_of_getElem? (i := 765) (by decide +kernel)) (by decide +kernel)
theorem ck_L_80 : xCal RL 80 RX6 yX6_thrown cX6_thrown 1 (some .int) 0 := ⟨⟨wd_762, wd_763, wd_764, wd_65, wd_765⟩, rfl, by decide +kernel, by decide +kernel, by decide +kernel⟩
theorem wd_815 : (Jvm.Cond.methodLink "EchoLineLaw" (86 : Nat) ({ cls := "EchoLineModel", name := "pass", desc := "(I)I" } : Jvm.MethodName)) ∈ WG := xWG (List.mem_of_getElem? (i := 815) (by decide +kernel)) (by decide +kernel)
theorem wd_816 : (Jvm.Cond.instanceMethod ({ cls := "EchoLineModel", name := "pass", desc := "(I)I" } : Jvm.MethodName)) ∈ WG := xWG (List.mem_of_getElem? (i := 816) (by decide +kernel)) (by decide +kernel)
theorem wd_817 : (Jvm.Cond.selects "EchoLineModel" ({ cls := "EchoLineModel", name := "pass", desc := "(I)I" } : Jvm.MethodName) ({ cls := "EchoLineModel", name := "pass", desc := "(I)I" } : Jvm.MethodName)) ∈ WG := xWG (List.mem_of_getElem? (i := 817) (by decide +kernel)) (by decide +kernel)
theorem wd_818 : (Jvm.Cond.code ({ cls := "EchoLineModel", name := "pass", desc := "(I)I" } : Jvm.MethodName) prog_8_method_17_code (2 : Nat) (Option.some Jvm.ClassFile.FieldType.int)) ∈ WG := xWG (List.mem_of_getElem? (i := 818) (by decide +kernel)) (by decide +kernel)
theorem ck_L_86 : xCal RL 86 RX6 yX6_pass cX6_pass 2 (some .int) 1 := ⟨⟨wd_815, wd_816, wd_817, wd_65, wd_818⟩, rfl, by decide +kernel, by decide +kernel, by decide +kernel⟩
theorem wd_823 : (Jvm.Cond.methodLink "EchoLineLaw" (90 : Nat) ({ cls := "EchoLineModel", name := "wall", desc := "(II)I" } : Jvm.MethodName)) ∈ WG := xWG (List.mem_of_getElem? (i := 823) (by decide +kernel)) (by decide +kernel)
theorem wd_824 : (Jvm.Cond.instanceMethod ({ cls := "EchoLineModel", name := "wall", desc := "(II)I" } : Jvm.MethodName)) ∈ WG := xWG (List.mem_of_getElem? (i := 824) (by decide +kernel)) (by decide +kernel)
theorem wd_825 : (Jvm.Cond.selects "EchoLineModel" ({ cls := "EchoLineModel", name := "wall", desc := "(II)I" } : Jvm.MethodName) ({ cls := "EchoLineModel", name := "wall", desc := "(II)I" } : Jvm.MethodName)) ∈ WG := xWG (List.mem_of_getElem? (i := 825) (by decide +kernel)) (by decide +kernel)
theorem wd_826 : (Jvm.Cond.code ({ cls := "EchoLineModel", name := "wall", desc := "(II)I" } : Jvm.MethodName) prog_8_method_18_code (4 : Nat) (Option.some Jvm.ClassFile.FieldType.int)) ∈ WG := xWG (List.mem_of_getElem? (i := 826) (by decide +kernel)) (by decide +kernel)
theorem ck_L_90 : xCal RL 90 RX6 yX6_wall cX6_wall 4 (some .int) 2 := ⟨⟨wd_823, wd_824, wd_825, wd_65, wd_826⟩, rfl, by decide +kernel, by decide +kernel, by decide +kernel⟩
theorem wd_827 : (Jvm.Cond.methodLink "EchoLineLaw" (93 : Nat) ({ cls := "EchoLineModel", name := "set", desc := "(II)I" } : Jvm.MethodName)) ∈ WG := xWG (List.mem_of_getElem? (i := 827) (by decide +kernel)) (by decide +kernel)
theorem wd_828 : (Jvm.Cond.instanceMethod ({ cls := "EchoLineModel", name := "set", desc := "(II)I" } : Jvm.MethodName)) ∈ WG := xWG (List.mem_of_getElem? (i := 828) (by decide +kernel)) (by decide +kernel)
theorem wd_829 : (Jvm.Cond.selects "EchoLineModel" ({ cls := "EchoLineModel", name := "set", desc := "(II)I" } : Jvm.MethodName) ({ cls := "EchoLineModel", name := "set", desc := "(II)I" } : Jvm.MethodName)) ∈ WG := xWG (List.mem_of_getElem? (i := 829) (by decide +kernel)) (by decide +kernel)
theorem wd_830 : (Jvm.Cond.code ({ cls := "EchoLineModel", name := "set", desc := "(II)I" } : Jvm.MethodName) prog_8_method_19_code (5 : Nat) (Option.some Jvm.ClassFile.FieldType.int)) ∈ WG := xWG (List.mem_of_getElem? (i := 830) (by decide +kernel)) (by decide +kernel)
theorem ck_L_93 : xCal RL 93 RX6 yX6_set cX6_set 5 (some .int) 2 := ⟨⟨wd_827, wd_828, wd_829, wd_65, wd_830⟩, rfl, by decide +kernel, by decide +kernel, by decide +kernel⟩
theorem wd_831 : (Jvm.Cond.methodLink "EchoLineLaw" (96 : Nat) ({ cls := "EchoLineModel", name := "append", desc := "(I)I" } : Jvm.MethodName)) ∈ WG := xWG (List.mem_of_getElem? (i := 831) (by decide +kernel)) (by decide +kernel)
theorem wd_832 : (Jvm.Cond.instanceMethod ({ cls := "EchoLineModel", name := "append", desc := "(I)I" } : Jvm.MethodName)) ∈ WG := xWG (List.mem_of_getElem? (i := 832) (by decide +kernel)) (by decide +kernel)
theorem wd_833 : (Jvm.Cond.selects "EchoLineModel" ({ cls := "EchoLineModel", name := "append", desc := "(I)I" } : Jvm.MethodName) ({ cls := "EchoLineModel", name := "append", desc := "(I)I" } : Jvm.MethodName)) ∈ WG := xWG (List.mem_of_getElem? (i := 833) (by decide +kernel)) (by decide +kernel)
theorem wd_834 : (Jvm.Cond.code ({ cls := "EchoLineModel", name := "append", desc := "(I)I" } : Jvm.MethodName) prog_8_method_20_code (2 : Nat) (Option.some Jvm.ClassFile.FieldType.int)) ∈ WG := xWG (List.mem_of_getElem? (i := 834) (by decide +kernel)) (by decide +kernel)
theorem ck_L_96 : xCal RL 96 RX6 yX6_append cX6_append 2 (some .int) 1 := ⟨⟨wd_831, wd_832, wd_833, wd_65, wd_834⟩, rfl, by decide +kernel, by decide +kernel, by decide +kernel⟩
theorem wd_205 : (Jvm.Cond.methodLink "EchoLineLaw" (97 : Nat) ({ cls := "EchoLine", name := "clearBuffer", desc := "()I" } : Jvm.MethodName)) ∈ WG := xWG (List.mem_of_getElem? (i := 205) (by decide +kernel)) (by decide +kernel)
theorem wd_206 : (Jvm.Cond.instanceMethod ({ cls := "EchoLine", name := "clearBuffer", desc := "()I" } : Jvm.MethodName)) ∈ WG := xWG (List.mem_of_getElem? (i := 206) (by decide +kernel)) (by decide +kernel)
theorem wd_207 : (Jvm.Cond.selects "EchoLine" ({ cls := "EchoLine", name := "clearBuffer", desc := "()I" } : Jvm.MethodName) ({ cls := "EchoLine", name := "clearBuffer", desc := "()I" } : Jvm.MethodName)) ∈ WG := xWG (List.mem_of_getElem? (i := 207) (by decide +kernel)) (by decide +kernel)
theorem wd_208 : (Jvm.Cond.code ({ cls := "EchoLine", name := "clearBuffer", desc := "()I" } : Jvm.MethodName) prog_1_method_7_code (2 : Nat) (Option.some Jvm.ClassFile.FieldType.int)) ∈ WG := xWG (List.mem_of_getElem? (i := 208) (by decide +kernel)) (by decide +kernel)
theorem ck_L_97 : xCal RL 97 RX5 yX5_clearBuffer cX5_clearBuffer 2 (some .int) 0 := ⟨⟨wd_205, wd_206, wd_207, wd_60, wd_208⟩, rfl, by decide +kernel, by decide +kernel, by decide +kernel⟩
theorem wd_835 : (Jvm.Cond.methodLink "EchoLineLaw" (100 : Nat) ({ cls := "EchoLineModel", name := "clearBuffer", desc := "()I" } : Jvm.MethodName)) ∈ WG := xWG (List.mem_of_getElem? (i := 835) (by decide +kernel)) (by decide +kernel)
theorem wd_836 : (Jvm.Cond.instanceMethod ({ cls := "EchoLineModel", name := "clearBuffer", desc := "()I" } : Jvm.MethodName)) ∈ WG := xWG (List.mem_of_getElem? (i := 836) (by decide +kernel)) (by decide +kernel)
theorem wd_837 : (Jvm.Cond.selects "EchoLineModel" ({ cls := "EchoLineModel", name := "clearBuffer", desc := "()I" } : Jvm.MethodName) ({ cls := "EchoLineModel", name := "clearBuffer", desc := "()I" } : Jvm.MethodName)) ∈ WG := xWG (List.mem_of_getElem? (i := 837) (by decide +kernel)) (by decide +kernel)
theorem wd_838 : (Jvm.Cond.code ({ cls := "EchoLineModel", name := "clearBuffer", desc := "()I" } : Jvm.MethodName) prog_8_method_21_code (2 : Nat) (Option.some Jvm.ClassFile.FieldType.int)) ∈ WG := xWG (List.mem_of_getElem? (i := 838) (by decide +kernel)) (by decide +kernel)
theorem ck_L_100 : xCal RL 100 RX6 yX6_clearBuffer cX6_clearBuffer 2 (some .int) 0 := ⟨⟨wd_835, wd_836, wd_837, wd_65, wd_838⟩, rfl, by decide +kernel, by decide +kernel, by decide +kernel⟩
theorem wd_209 : (Jvm.Cond.methodLink "EchoLineLaw" (101 : Nat) ({ cls := "EchoLine", name := "firstError", desc := "()I" } : Jvm.MethodName)) ∈ WG := xWG (List.mem_of_getElem? (i := 209) (by decide +kernel)) (by decide +kernel)
theorem wd_210 : (Jvm.Cond.instanceMethod ({ cls := "EchoLine", name := "firstError", desc := "()I" } : Jvm.MethodName)) ∈ WG := xWG (List.mem_of_getElem? (i := 210) (by decide +kernel)) (by decide +kernel)
theorem wd_211 : (Jvm.Cond.selects "EchoLine" ({ cls := "EchoLine", name := "firstError", desc := "()I" } : Jvm.MethodName) ({ cls := "EchoLine", name := "firstError", desc := "()I" } : Jvm.MethodName)) ∈ WG := xWG (List.mem_of_getElem? (i := 211) (by decide +kernel)) (by decide +kernel)
theorem wd_212 : (Jvm.Cond.code ({ cls := "EchoLine", name := "firstError", desc := "()I" } : Jvm.MethodName) prog_1_method_8_code (1 : Nat) (Option.some Jvm.ClassFile.FieldType.int)) ∈ WG := xWG (List.mem_of_getElem? (i := 212) (by decide +kernel)) (by decide +kernel)
theorem ck_L_101 : xCal RL 101 RX5 yX5_firstError cX5_firstError 1 (some .int) 0 := ⟨⟨wd_209, wd_210, wd_211, wd_60, wd_212⟩, rfl, by decide +kernel, by decide +kernel, by decide +kernel⟩
theorem wd_839 : (Jvm.Cond.methodLink "EchoLineLaw" (104 : Nat) ({ cls := "EchoLineModel", name := "firstError", desc := "()I" } : Jvm.MethodName)) ∈ WG := xWG (List.mem_of_getElem? (i := 839) (by decide +kernel)) (by decide +kernel)
theorem wd_840 : (Jvm.Cond.instanceMethod ({ cls := "EchoLineModel", name := "firstError", desc := "()I" } : Jvm.MethodName)) ∈ WG := xWG (List.mem_of_getElem? (i := 840) (by decide +kernel)) (by decide +kernel)
theorem wd_841 : (Jvm.Cond.selects "EchoLineModel" ({ cls := "EchoLineModel", name := "firstError", desc := "()I" } : Jvm.MethodName) ({ cls := "EchoLineModel", name := "firstError", desc := "()I" } : Jvm.MethodName)) ∈ WG := xWG (List.mem_of_getElem? (i := 841) (by decide +kernel)) (by decide +kernel)
theorem wd_842 : (Jvm.Cond.code ({ cls := "EchoLineModel", name := "firstError", desc := "()I" } : Jvm.MethodName) prog_8_method_28_code (1 : Nat) (Option.some Jvm.ClassFile.FieldType.int)) ∈ WG := xWG (List.mem_of_getElem? (i := 842) (by decide +kernel)) (by decide +kernel)
theorem ck_L_104 : xCal RL 104 RX6 yX6_firstError cX6_firstError 1 (some .int) 0 := ⟨⟨wd_839, wd_840, wd_841, wd_65, wd_842⟩, rfl, by decide +kernel, by decide +kernel, by decide +kernel⟩
theorem wd_867 : (Jvm.Cond.methodLink "EchoLineLaw" (108 : Nat) ({ cls := "EchoLineModel", name := "talk", desc := "()I" } : Jvm.MethodName)) ∈ WG := xWG (List.mem_of_getElem? (i := 867) (by decide +kernel)) (by decide +kernel)
theorem wd_868 : (Jvm.Cond.instanceMethod ({ cls := "EchoLineModel", name := "talk", desc := "()I" } : Jvm.MethodName)) ∈ WG := xWG (List.mem_of_getElem? (i := 868) (by decide +kernel)) (by decide +kernel)
theorem wd_869 : (Jvm.Cond.selects "EchoLineModel" ({ cls := "EchoLineModel", name := "talk", desc := "()I" } : Jvm.MethodName) ({ cls := "EchoLineModel", name := "talk", desc := "()I" } : Jvm.MethodName)) ∈ WG := xWG (List.mem_of_getElem? (i := 869) (by decide +kernel)) (by decide +kernel)
theorem wd_870 : (Jvm.Cond.code ({ cls := "EchoLineModel", name := "talk", desc := "()I" } : Jvm.MethodName) prog_8_method_29_code (4 : Nat) (Option.some Jvm.ClassFile.FieldType.int)) ∈ WG := xWG (List.mem_of_getElem? (i := 870) (by decide +kernel)) (by decide +kernel)
theorem ck_L_108 : xCal RL 108 RX6 yX6_talk cX6_talk 4 (some .int) 0 := ⟨⟨wd_867, wd_868, wd_869, wd_65, wd_870⟩, rfl, by decide +kernel, by decide +kernel, by decide +kernel⟩
theorem wd_871 : (Jvm.Cond.methodLink "EchoLineLaw" (111 : Nat) ({ cls := "EchoLineModel", name := "undo", desc := "()I" } : Jvm.MethodName)) ∈ WG := xWG (List.mem_of_getElem? (i := 871) (by decide +kernel)) (by decide +kernel)
theorem wd_872 : (Jvm.Cond.instanceMethod ({ cls := "EchoLineModel", name := "undo", desc := "()I" } : Jvm.MethodName)) ∈ WG := xWG (List.mem_of_getElem? (i := 872) (by decide +kernel)) (by decide +kernel)
theorem wd_873 : (Jvm.Cond.selects "EchoLineModel" ({ cls := "EchoLineModel", name := "undo", desc := "()I" } : Jvm.MethodName) ({ cls := "EchoLineModel", name := "undo", desc := "()I" } : Jvm.MethodName)) ∈ WG := xWG (List.mem_of_getElem? (i := 873) (by decide +kernel)) (by decide +kernel)
theorem wd_874 : (Jvm.Cond.code ({ cls := "EchoLineModel", name := "undo", desc := "()I" } : Jvm.MethodName) prog_8_method_30_code (1 : Nat) (Option.some Jvm.ClassFile.FieldType.int)) ∈ WG := xWG (List.mem_of_getElem? (i := 874) (by decide +kernel)) (by decide +kernel)
theorem ck_L_111 : xCal RL 111 RX6 yX6_undo cX6_undo 1 (some .int) 0 := ⟨⟨wd_871, wd_872, wd_873, wd_65, wd_874⟩, rfl, by decide +kernel, by decide +kernel, by decide +kernel⟩
theorem wd_235 : (Jvm.Cond.methodLink "EchoLineLaw" (112 : Nat) ({ cls := "EchoLine", name := "keep", desc := "()I" } : Jvm.MethodName)) ∈ WG := xWG (List.mem_of_getElem? (i := 235) (by decide +kernel)) (by decide +kernel)
theorem wd_236 : (Jvm.Cond.instanceMethod ({ cls := "EchoLine", name := "keep", desc := "()I" } : Jvm.MethodName)) ∈ WG := xWG (List.mem_of_getElem? (i := 236) (by decide +kernel)) (by decide +kernel)
theorem wd_237 : (Jvm.Cond.selects "EchoLine" ({ cls := "EchoLine", name := "keep", desc := "()I" } : Jvm.MethodName) ({ cls := "EchoLine", name := "keep", desc := "()I" } : Jvm.MethodName)) ∈ WG := xWG (List.mem_of_getElem? (i := 237) (by decide +kernel)) (by decide +kernel)
theorem wd_238 : (Jvm.Cond.code ({ cls := "EchoLine", name := "keep", desc := "()I" } : Jvm.MethodName) prog_1_method_11_code (1 : Nat) (Option.some Jvm.ClassFile.FieldType.int)) ∈ WG := xWG (List.mem_of_getElem? (i := 238) (by decide +kernel)) (by decide +kernel)
theorem ck_L_112 : xCal RL 112 RX5 yX5_keep cX5_keep 1 (some .int) 0 := ⟨⟨wd_235, wd_236, wd_237, wd_60, wd_238⟩, rfl, by decide +kernel, by decide +kernel, by decide +kernel⟩
theorem wd_875 : (Jvm.Cond.methodLink "EchoLineLaw" (115 : Nat) ({ cls := "EchoLineModel", name := "keep", desc := "()I" } : Jvm.MethodName)) ∈ WG := xWG (List.mem_of_getElem? (i := 875) (by decide +kernel)) (by decide +kernel)
theorem wd_876 : (Jvm.Cond.instanceMethod ({ cls := "EchoLineModel", name := "keep", desc := "()I" } : Jvm.MethodName)) ∈ WG := xWG (List.mem_of_getElem? (i := 876) (by decide +kernel)) (by decide +kernel)
theorem wd_877 : (Jvm.Cond.selects "EchoLineModel" ({ cls := "EchoLineModel", name := "keep", desc := "()I" } : Jvm.MethodName) ({ cls := "EchoLineModel", name := "keep", desc := "()I" } : Jvm.MethodName)) ∈ WG := xWG (List.mem_of_getElem? (i := 877) (by decide +kernel)) (by decide +kernel)
theorem wd_878 : (Jvm.Cond.code ({ cls := "EchoLineModel", name := "keep", desc := "()I" } : Jvm.MethodName) prog_8_method_31_code (1 : Nat) (Option.some Jvm.ClassFile.FieldType.int)) ∈ WG := xWG (List.mem_of_getElem? (i := 878) (by decide +kernel)) (by decide +kernel)
theorem ck_L_115 : xCal RL 115 RX6 yX6_keep cX6_keep 1 (some .int) 0 := ⟨⟨wd_875, wd_876, wd_877, wd_65, wd_878⟩, rfl, by decide +kernel, by decide +kernel, by decide +kernel⟩
theorem wd_879 : (Jvm.Cond.methodLink "EchoLineLaw" (118 : Nat) ({ cls := "EchoLineModel", name := "restore", desc := "()I" } : Jvm.MethodName)) ∈ WG := xWG (List.mem_of_getElem? (i := 879) (by decide +kernel)) (by decide +kernel)
theorem wd_880 : (Jvm.Cond.instanceMethod ({ cls := "EchoLineModel", name := "restore", desc := "()I" } : Jvm.MethodName)) ∈ WG := xWG (List.mem_of_getElem? (i := 880) (by decide +kernel)) (by decide +kernel)
theorem wd_881 : (Jvm.Cond.selects "EchoLineModel" ({ cls := "EchoLineModel", name := "restore", desc := "()I" } : Jvm.MethodName) ({ cls := "EchoLineModel", name := "restore", desc := "()I" } : Jvm.MethodName)) ∈ WG := xWG (List.mem_of_getElem? (i := 881) (by decide +kernel)) (by decide +kernel)
theorem wd_882 : (Jvm.Cond.code ({ cls := "EchoLineModel", name := "restore", desc := "()I" } : Jvm.MethodName) prog_8_method_32_code (1 : Nat) (Option.some Jvm.ClassFile.FieldType.int)) ∈ WG := xWG (List.mem_of_getElem? (i := 882) (by decide +kernel)) (by decide +kernel)
theorem ck_L_118 : xCal RL 118 RX6 yX6_restore cX6_restore 1 (some .int) 0 := ⟨⟨wd_879, wd_880, wd_881, wd_65, wd_882⟩, rfl, by decide +kernel, by decide +kernel, by decide +kernel⟩
theorem wd_883 : (Jvm.Cond.methodLink "EchoLineLaw" (121 : Nat) ({ cls := "EchoLineModel", name := "said", desc := "(II)I" } : Jvm.MethodName)) ∈ WG := xWG (List.mem_of_getElem? (i := 883) (by decide +kernel)) (by decide +kernel)
theorem wd_884 : (Jvm.Cond.instanceMethod ({ cls := "EchoLineModel", name := "said", desc := "(II)I" } : Jvm.MethodName)) ∈ WG := xWG (List.mem_of_getElem? (i := 884) (by decide +kernel)) (by decide +kernel)
theorem wd_885 : (Jvm.Cond.selects "EchoLineModel" ({ cls := "EchoLineModel", name := "said", desc := "(II)I" } : Jvm.MethodName) ({ cls := "EchoLineModel", name := "said", desc := "(II)I" } : Jvm.MethodName)) ∈ WG := xWG (List.mem_of_getElem? (i := 885) (by decide +kernel)) (by decide +kernel)
theorem wd_886 : (Jvm.Cond.code ({ cls := "EchoLineModel", name := "said", desc := "(II)I" } : Jvm.MethodName) prog_8_method_38_code (3 : Nat) (Option.some Jvm.ClassFile.FieldType.int)) ∈ WG := xWG (List.mem_of_getElem? (i := 886) (by decide +kernel)) (by decide +kernel)
theorem ck_L_121 : xCal RL 121 RX6 yX6_said cX6_said 3 (some .int) 2 := ⟨⟨wd_883, wd_884, wd_885, wd_65, wd_886⟩, rfl, by decide +kernel, by decide +kernel, by decide +kernel⟩
theorem wd_903 : (Jvm.Cond.methodLink "EchoLineLaw" (124 : Nat) ({ cls := "EchoLineModel", name := "comes", desc := "(II)I" } : Jvm.MethodName)) ∈ WG := xWG (List.mem_of_getElem? (i := 903) (by decide +kernel)) (by decide +kernel)
theorem wd_904 : (Jvm.Cond.instanceMethod ({ cls := "EchoLineModel", name := "comes", desc := "(II)I" } : Jvm.MethodName)) ∈ WG := xWG (List.mem_of_getElem? (i := 904) (by decide +kernel)) (by decide +kernel)
theorem wd_905 : (Jvm.Cond.selects "EchoLineModel" ({ cls := "EchoLineModel", name := "comes", desc := "(II)I" } : Jvm.MethodName) ({ cls := "EchoLineModel", name := "comes", desc := "(II)I" } : Jvm.MethodName)) ∈ WG := xWG (List.mem_of_getElem? (i := 905) (by decide +kernel)) (by decide +kernel)
theorem wd_906 : (Jvm.Cond.code ({ cls := "EchoLineModel", name := "comes", desc := "(II)I" } : Jvm.MethodName) prog_8_method_40_code (3 : Nat) (Option.some Jvm.ClassFile.FieldType.int)) ∈ WG := xWG (List.mem_of_getElem? (i := 906) (by decide +kernel)) (by decide +kernel)
theorem ck_L_124 : xCal RL 124 RX6 yX6_comes cX6_comes 3 (some .int) 2 := ⟨⟨wd_903, wd_904, wd_905, wd_65, wd_906⟩, rfl, by decide +kernel, by decide +kernel, by decide +kernel⟩
theorem wd_911 : (Jvm.Cond.methodLink "EchoLineLaw" (127 : Nat) ({ cls := "EchoLineModel", name := "heard", desc := "(III)I" } : Jvm.MethodName)) ∈ WG := xWG (List.mem_of_getElem? (i := 911) (by decide +kernel)) (by decide +kernel)
theorem wd_912 : (Jvm.Cond.instanceMethod ({ cls := "EchoLineModel", name := "heard", desc := "(III)I" } : Jvm.MethodName)) ∈ WG := xWG (List.mem_of_getElem? (i := 912) (by decide +kernel)) (by decide +kernel)
theorem wd_913 : (Jvm.Cond.selects "EchoLineModel" ({ cls := "EchoLineModel", name := "heard", desc := "(III)I" } : Jvm.MethodName) ({ cls := "EchoLineModel", name := "heard", desc := "(III)I" } : Jvm.MethodName)) ∈ WG := xWG (List.mem_of_getElem? (i := 913) (by decide +kernel)) (by decide +kernel)
theorem wd_914 : (Jvm.Cond.code ({ cls := "EchoLineModel", name := "heard", desc := "(III)I" } : Jvm.MethodName) prog_8_method_42_code (4 : Nat) (Option.some Jvm.ClassFile.FieldType.int)) ∈ WG := xWG (List.mem_of_getElem? (i := 914) (by decide +kernel)) (by decide +kernel)
theorem ck_L_127 : xCal RL 127 RX6 yX6_heard cX6_heard 4 (some .int) 3 := ⟨⟨wd_911, wd_912, wd_913, wd_65, wd_914⟩, rfl, by decide +kernel, by decide +kernel, by decide +kernel⟩
theorem wd_923 : (Jvm.Cond.methodLink "EchoLineLaw" (130 : Nat) ({ cls := "EchoLineModel", name := "speaker", desc := "(II)I" } : Jvm.MethodName)) ∈ WG := xWG (List.mem_of_getElem? (i := 923) (by decide +kernel)) (by decide +kernel)
theorem wd_924 : (Jvm.Cond.instanceMethod ({ cls := "EchoLineModel", name := "speaker", desc := "(II)I" } : Jvm.MethodName)) ∈ WG := xWG (List.mem_of_getElem? (i := 924) (by decide +kernel)) (by decide +kernel)
theorem wd_925 : (Jvm.Cond.selects "EchoLineModel" ({ cls := "EchoLineModel", name := "speaker", desc := "(II)I" } : Jvm.MethodName) ({ cls := "EchoLineModel", name := "speaker", desc := "(II)I" } : Jvm.MethodName)) ∈ WG := xWG (List.mem_of_getElem? (i := 925) (by decide +kernel)) (by decide +kernel)
theorem wd_926 : (Jvm.Cond.code ({ cls := "EchoLineModel", name := "speaker", desc := "(II)I" } : Jvm.MethodName) prog_8_method_48_code (3 : Nat) (Option.some Jvm.ClassFile.FieldType.int)) ∈ WG := xWG (List.mem_of_getElem? (i := 926) (by decide +kernel)) (by decide +kernel)
theorem ck_L_130 : xCal RL 130 RX6 yX6_speaker cX6_speaker 3 (some .int) 2 := ⟨⟨wd_923, wd_924, wd_925, wd_65, wd_926⟩, rfl, by decide +kernel, by decide +kernel, by decide +kernel⟩
theorem wd_947 : (Jvm.Cond.methodLink "EchoLineLaw" (133 : Nat) ({ cls := "EchoLineModel", name := "message", desc := "(III)I" } : Jvm.MethodName)) ∈ WG := xWG (List.mem_of_getElem? (i := 947) (by decide +kernel)) (by decide +kernel)
theorem wd_948 : (Jvm.Cond.instanceMethod ({ cls := "EchoLineModel", name := "message", desc := "(III)I" } : Jvm.MethodName)) ∈ WG := xWG (List.mem_of_getElem? (i := 948) (by decide +kernel)) (by decide +kernel)
theorem wd_949 : (Jvm.Cond.selects "EchoLineModel" ({ cls := "EchoLineModel", name := "message", desc := "(III)I" } : Jvm.MethodName) ({ cls := "EchoLineModel", name := "message", desc := "(III)I" } : Jvm.MethodName)) ∈ WG := xWG (List.mem_of_getElem? (i := 949) (by decide +kernel)) (by decide +kernel)
theorem wd_950 : (Jvm.Cond.code ({ cls := "EchoLineModel", name := "message", desc := "(III)I" } : Jvm.MethodName) prog_8_method_50_code (4 : Nat) (Option.some Jvm.ClassFile.FieldType.int)) ∈ WG := xWG (List.mem_of_getElem? (i := 950) (by decide +kernel)) (by decide +kernel)
theorem ck_L_133 : xCal RL 133 RX6 yX6_message cX6_message 4 (some .int) 3 := ⟨⟨wd_947, wd_948, wd_949, wd_65, wd_950⟩, rfl, by decide +kernel, by decide +kernel, by decide +kernel⟩
theorem wd_955 : (Jvm.Cond.methodLink "EchoLineLaw" (136 : Nat) ({ cls := "EchoLineModel", name := "count", desc := "(I)I" } : Jvm.MethodName)) ∈ WG := xWG (List.mem_of_getElem? (i := 955) (by decide +kernel)) (by decide +kernel)
theorem wd_956 : (Jvm.Cond.instanceMethod ({ cls := "EchoLineModel", name := "count", desc := "(I)I" } : Jvm.MethodName)) ∈ WG := xWG (List.mem_of_getElem? (i := 956) (by decide +kernel)) (by decide +kernel)
theorem wd_957 : (Jvm.Cond.selects "EchoLineModel" ({ cls := "EchoLineModel", name := "count", desc := "(I)I" } : Jvm.MethodName) ({ cls := "EchoLineModel", name := "count", desc := "(I)I" } : Jvm.MethodName)) ∈ WG := xWG (List.mem_of_getElem? (i := 957) (by decide +kernel)) (by decide +kernel)
theorem wd_958 : (Jvm.Cond.code ({ cls := "EchoLineModel", name := "count", desc := "(I)I" } : Jvm.MethodName) prog_8_method_54_code (2 : Nat) (Option.some Jvm.ClassFile.FieldType.int)) ∈ WG := xWG (List.mem_of_getElem? (i := 958) (by decide +kernel)) (by decide +kernel)
theorem ck_L_136 : xCal RL 136 RX6 yX6_count cX6_count 2 (some .int) 1 := ⟨⟨wd_955, wd_956, wd_957, wd_65, wd_958⟩, rfl, by decide +kernel, by decide +kernel, by decide +kernel⟩
theorem wd_971 : (Jvm.Cond.methodLink "EchoLineLaw" (139 : Nat) ({ cls := "EchoLineModel", name := "whyNot", desc := "(II)I" } : Jvm.MethodName)) ∈ WG := xWG (List.mem_of_getElem? (i := 971) (by decide +kernel)) (by decide +kernel)
theorem wd_972 : (Jvm.Cond.instanceMethod ({ cls := "EchoLineModel", name := "whyNot", desc := "(II)I" } : Jvm.MethodName)) ∈ WG := xWG (List.mem_of_getElem? (i := 972) (by decide +kernel)) (by decide +kernel)
theorem wd_973 : (Jvm.Cond.selects "EchoLineModel" ({ cls := "EchoLineModel", name := "whyNot", desc := "(II)I" } : Jvm.MethodName) ({ cls := "EchoLineModel", name := "whyNot", desc := "(II)I" } : Jvm.MethodName)) ∈ WG := xWG (List.mem_of_getElem? (i := 973) (by decide +kernel)) (by decide +kernel)
theorem wd_974 : (Jvm.Cond.code ({ cls := "EchoLineModel", name := "whyNot", desc := "(II)I" } : Jvm.MethodName) prog_8_method_56_code (3 : Nat) (Option.some Jvm.ClassFile.FieldType.int)) ∈ WG := xWG (List.mem_of_getElem? (i := 974) (by decide +kernel)) (by decide +kernel)
theorem ck_L_139 : xCal RL 139 RX6 yX6_whyNot cX6_whyNot 3 (some .int) 2 := ⟨⟨wd_971, wd_972, wd_973, wd_65, wd_974⟩, rfl, by decide +kernel, by decide +kernel, by decide +kernel⟩
theorem wd_979 : (Jvm.Cond.methodLink "EchoLineLaw" (142 : Nat) ({ cls := "EchoLineModel", name := "ifSilent", desc := "(I)I" } : Jvm.MethodName)) ∈ WG := xWG (List.mem_of_getElem? (i := 979) (by decide +kernel)) (by decide +kernel)
theorem wd_980 : (Jvm.Cond.instanceMethod ({ cls := "EchoLineModel", name := "ifSilent", desc := "(I)I" } : Jvm.MethodName)) ∈ WG := xWG (List.mem_of_getElem? (i := 980) (by decide +kernel)) (by decide +kernel)
theorem wd_981 : (Jvm.Cond.selects "EchoLineModel" ({ cls := "EchoLineModel", name := "ifSilent", desc := "(I)I" } : Jvm.MethodName) ({ cls := "EchoLineModel", name := "ifSilent", desc := "(I)I" } : Jvm.MethodName)) ∈ WG := xWG (List.mem_of_getElem? (i := 981) (by decide +kernel)) (by decide +kernel)
theorem wd_982 : (Jvm.Cond.code ({ cls := "EchoLineModel", name := "ifSilent", desc := "(I)I" } : Jvm.MethodName) prog_8_method_57_code (2 : Nat) (Option.some Jvm.ClassFile.FieldType.int)) ∈ WG := xWG (List.mem_of_getElem? (i := 982) (by decide +kernel)) (by decide +kernel)
theorem ck_L_142 : xCal RL 142 RX6 yX6_ifSilent cX6_ifSilent 2 (some .int) 1 := ⟨⟨wd_979, wd_980, wd_981, wd_65, wd_982⟩, rfl, by decide +kernel, by decide +kernel, by decide +kernel⟩
theorem wd_983 : (Jvm.Cond.methodLink "EchoLineLaw" (145 : Nat) ({ cls := "EchoLineModel", name := "heardIn", desc := "(II)I" } : Jvm.MethodName)) ∈ WG := xWG (List.mem_of_getElem? (i := 983) (by decide +kernel)) (by decide +kernel)
theorem wd_984 : (Jvm.Cond.instanceMethod ({ cls := "EchoLineModel", name := "heardIn", desc := "(II)I" } : Jvm.MethodName)) ∈ WG := xWG (List.mem_of_getElem? (i := 984) (by decide +kernel)) (by decide +kernel)
theorem wd_985 : (Jvm.Cond.selects "EchoLineModel" ({ cls := "EchoLineModel", name := "heardIn", desc := "(II)I" } : Jvm.MethodName) ({ cls := "EchoLineModel", name := "heardIn", desc := "(II)I" } : Jvm.MethodName)) ∈ WG := xWG (List.mem_of_getElem? (i := 985) (by decide +kernel)) (by decide +kernel)
theorem wd_986 : (Jvm.Cond.code ({ cls := "EchoLineModel", name := "heardIn", desc := "(II)I" } : Jvm.MethodName) prog_8_method_59_code (3 : Nat) (Option.some Jvm.ClassFile.FieldType.int)) ∈ WG := xWG (List.mem_of_getElem? (i := 986) (by decide +kernel)) (by decide +kernel)
theorem ck_L_145 : xCal RL 145 RX6 yX6_heardIn cX6_heardIn 3 (some .int) 2 := ⟨⟨wd_983, wd_984, wd_985, wd_65, wd_986⟩, rfl, by decide +kernel, by decide +kernel, by decide +kernel⟩
theorem wd_246 : (Jvm.Cond.methodLink "EchoLineLaw" (146 : Nat) ({ cls := "EchoLine", name := "bestSeat", desc := "()I" } : Jvm.MethodName)) ∈ WG := xWG (List.mem_of_getElem? (i := 246) (by decide +kernel)) (by decide +kernel)
theorem wd_247 : (Jvm.Cond.instanceMethod ({ cls := "EchoLine", name := "bestSeat", desc := "()I" } : Jvm.MethodName)) ∈ WG := xWG (List.mem_of_getElem? (i := 247) (by decide +kernel)) (by decide +kernel)
theorem wd_248 : (Jvm.Cond.selects "EchoLine" ({ cls := "EchoLine", name := "bestSeat", desc := "()I" } : Jvm.MethodName) ({ cls := "EchoLine", name := "bestSeat", desc := "()I" } : Jvm.MethodName)) ∈ WG := xWG (List.mem_of_getElem? (i := 248) (by decide +kernel)) (by decide +kernel)
theorem wd_249 : (Jvm.Cond.code ({ cls := "EchoLine", name := "bestSeat", desc := "()I" } : Jvm.MethodName) prog_1_method_22_code (1 : Nat) (Option.some Jvm.ClassFile.FieldType.int)) ∈ WG := xWG (List.mem_of_getElem? (i := 249) (by decide +kernel)) (by decide +kernel)
theorem ck_L_146 : xCal RL 146 RX5 yX5_bestSeat cX5_bestSeat 1 (some .int) 0 := ⟨⟨wd_246, wd_247, wd_248, wd_60, wd_249⟩, rfl, by decide +kernel, by decide +kernel, by decide +kernel⟩
theorem wd_991 : (Jvm.Cond.methodLink "EchoLineLaw" (149 : Nat) ({ cls := "EchoLineModel", name := "bestSeat", desc := "()I" } : Jvm.MethodName)) ∈ WG := xWG (List.mem_of_getElem? (i := 991) (by decide +kernel)) (by decide +kernel)
theorem wd_992 : (Jvm.Cond.instanceMethod ({ cls := "EchoLineModel", name := "bestSeat", desc := "()I" } : Jvm.MethodName)) ∈ WG := xWG (List.mem_of_getElem? (i := 992) (by decide +kernel)) (by decide +kernel)
theorem wd_993 : (Jvm.Cond.selects "EchoLineModel" ({ cls := "EchoLineModel", name := "bestSeat", desc := "()I" } : Jvm.MethodName) ({ cls := "EchoLineModel", name := "bestSeat", desc := "()I" } : Jvm.MethodName)) ∈ WG := xWG (List.mem_of_getElem? (i := 993) (by decide +kernel)) (by decide +kernel)
theorem wd_994 : (Jvm.Cond.code ({ cls := "EchoLineModel", name := "bestSeat", desc := "()I" } : Jvm.MethodName) prog_8_method_61_code (1 : Nat) (Option.some Jvm.ClassFile.FieldType.int)) ∈ WG := xWG (List.mem_of_getElem? (i := 994) (by decide +kernel)) (by decide +kernel)
theorem ck_L_149 : xCal RL 149 RX6 yX6_bestSeat cX6_bestSeat 1 (some .int) 0 := ⟨⟨wd_991, wd_992, wd_993, wd_65, wd_994⟩, rfl, by decide +kernel, by decide +kernel, by decide +kernel⟩
theorem wd_267 : (Jvm.Cond.methodLink "EchoLineLaw" (150 : Nat) ({ cls := "EchoLine", name := "heardShare", desc := "()D" } : Jvm.MethodName)) ∈ WG := xWG (List.mem_of_getElem? (i := 267) (by decide +kernel)) (by decide +kernel)
theorem wd_268 : (Jvm.Cond.instanceMethod ({ cls := "EchoLine", name := "heardShare", desc := "()D" } : Jvm.MethodName)) ∈ WG := xWG (List.mem_of_getElem? (i := 268) (by decide +kernel)) (by decide +kernel)
theorem wd_269 : (Jvm.Cond.selects "EchoLine" ({ cls := "EchoLine", name := "heardShare", desc := "()D" } : Jvm.MethodName) ({ cls := "EchoLine", name := "heardShare", desc := "()D" } : Jvm.MethodName)) ∈ WG := xWG (List.mem_of_getElem? (i := 269) (by decide +kernel)) (by decide +kernel)
theorem wd_270 : (Jvm.Cond.code ({ cls := "EchoLine", name := "heardShare", desc := "()D" } : Jvm.MethodName) prog_1_method_23_code (1 : Nat) (Option.some Jvm.ClassFile.FieldType.double)) ∈ WG := xWG (List.mem_of_getElem? (i := 270) (by decide +kernel)) (by decide +kernel)
theorem ck_L_150 : xCal RL 150 RX5 yX5_heardShare cX5_heardShare 1 (some .double) 0 := ⟨⟨wd_267, wd_268, wd_269, wd_60, wd_270⟩, rfl, by decide +kernel, by decide +kernel, by decide +kernel⟩
theorem wd_999 : (Jvm.Cond.methodLink "EchoLineLaw" (154 : Nat) ({ cls := "EchoLineModel", name := "heardShare", desc := "()D" } : Jvm.MethodName)) ∈ WG := xWG (List.mem_of_getElem? (i := 999) (by decide +kernel)) (by decide +kernel)
theorem wd_1000 : (Jvm.Cond.instanceMethod ({ cls := "EchoLineModel", name := "heardShare", desc := "()D" } : Jvm.MethodName)) ∈ WG := xWG (List.mem_of_getElem? (i := 1000) (by decide +kernel)) (by decide +kernel)
theorem wd_1001 : (Jvm.Cond.selects "EchoLineModel" ({ cls := "EchoLineModel", name := "heardShare", desc := "()D" } : Jvm.MethodName) ({ cls := "EchoLineModel", name := "heardShare", desc := "()D" } : Jvm.MethodName)) ∈ WG := xWG (List.mem_of_getElem? (i := 1001) (by decide +kernel)) (by decide +kernel)
theorem wd_1002 : (Jvm.Cond.code ({ cls := "EchoLineModel", name := "heardShare", desc := "()D" } : Jvm.MethodName) prog_8_method_63_code (1 : Nat) (Option.some Jvm.ClassFile.FieldType.double)) ∈ WG := xWG (List.mem_of_getElem? (i := 1002) (by decide +kernel)) (by decide +kernel)
theorem ck_L_154 : xCal RL 154 RX6 yX6_heardShare cX6_heardShare 1 (some .double) 0 := ⟨⟨wd_999, wd_1000, wd_1001, wd_65, wd_1002⟩, rfl, by decide +kernel, by decide +kernel, by decide +kernel⟩
theorem wd_279 : (Jvm.Cond.methodLink "EchoLineLaw" (155 : Nat) ({ cls := "EchoLine", name := "digest", desc := "()J" } : Jvm.MethodName)) ∈ WG := xWG (List.mem_of_getElem? (i := 279) (by decide +kernel)) (by decide +kernel)
theorem wd_280 : (Jvm.Cond.instanceMethod ({ cls := "EchoLine", name := "digest", desc := "()J" } : Jvm.MethodName)) ∈ WG := xWG (List.mem_of_getElem? (i := 280) (by decide +kernel)) (by decide +kernel)
theorem wd_281 : (Jvm.Cond.selects "EchoLine" ({ cls := "EchoLine", name := "digest", desc := "()J" } : Jvm.MethodName) ({ cls := "EchoLine", name := "digest", desc := "()J" } : Jvm.MethodName)) ∈ WG := xWG (List.mem_of_getElem? (i := 281) (by decide +kernel)) (by decide +kernel)
theorem wd_282 : (Jvm.Cond.code ({ cls := "EchoLine", name := "digest", desc := "()J" } : Jvm.MethodName) prog_1_method_24_code (3 : Nat) (Option.some Jvm.ClassFile.FieldType.long)) ∈ WG := xWG (List.mem_of_getElem? (i := 282) (by decide +kernel)) (by decide +kernel)
theorem ck_L_155 : xCal RL 155 RX5 yX5_digest cX5_digest 3 (some .long) 0 := ⟨⟨wd_279, wd_280, wd_281, wd_60, wd_282⟩, rfl, by decide +kernel, by decide +kernel, by decide +kernel⟩
theorem wd_1007 : (Jvm.Cond.methodLink "EchoLineLaw" (159 : Nat) ({ cls := "EchoLineModel", name := "digest", desc := "()J" } : Jvm.MethodName)) ∈ WG := xWG (List.mem_of_getElem? (i := 1007) (by decide +kernel)) (by decide +kernel)
theorem wd_1008 : (Jvm.Cond.instanceMethod ({ cls := "EchoLineModel", name := "digest", desc := "()J" } : Jvm.MethodName)) ∈ WG := xWG (List.mem_of_getElem? (i := 1008) (by decide +kernel)) (by decide +kernel)
theorem wd_1009 : (Jvm.Cond.selects "EchoLineModel" ({ cls := "EchoLineModel", name := "digest", desc := "()J" } : Jvm.MethodName) ({ cls := "EchoLineModel", name := "digest", desc := "()J" } : Jvm.MethodName)) ∈ WG := xWG (List.mem_of_getElem? (i := 1009) (by decide +kernel)) (by decide +kernel)
theorem wd_1010 : (Jvm.Cond.code ({ cls := "EchoLineModel", name := "digest", desc := "()J" } : Jvm.MethodName) prog_8_method_64_code (7 : Nat) (Option.some Jvm.ClassFile.FieldType.long)) ∈ WG := xWG (List.mem_of_getElem? (i := 1010) (by decide +kernel)) (by decide +kernel)
theorem ck_L_159 : xCal RL 159 RX6 yX6_digest cX6_digest 7 (some .long) 0 := ⟨⟨wd_1007, wd_1008, wd_1009, wd_65, wd_1010⟩, rfl, by decide +kernel, by decide +kernel, by decide +kernel⟩
set_option maxRecDepth 100000 in
theorem tw_59a : ∀ w ∈ (vx_atS RX5 59 "java/lang/IllegalStateException" ["java/lang/RuntimeException", "java/lang/Exception"]).filter goodWord, w ∈ WG := by decide +kernel
set_option maxRecDepth 100000 in
theorem tw_59b : ∀ w ∈ (vx_atS RX5 59 "java/lang/IllegalStateException" ["java/lang/RuntimeException", "java/lang/Exception"]).filter (fun w => !goodWord w), w ∈ WN := by decide +kernel
set_option maxRecDepth 100000 in
theorem tw_59c : ∀ w ∈ Cond.classLink RX5 55 "java/lang/IllegalStateException" :: Cond.initialized "java/lang/IllegalStateException" :: vx_atS RX5 59 "java/lang/IllegalStateException" ["java/lang/RuntimeException", "java/lang/Exception"], vx_ot w = true := by decide +kernel
theorem wd_513 : (Jvm.Cond.classLink "EchoLine" (55 : Nat) "java/lang/IllegalStateException") ∈ WG := xWG (List.mem_of_getElem? (i := 513) (by decide +kernel)) (by decide +kernel)
theorem wd_71 : (Jvm.Cond.initialized "java/lang/IllegalStateException") ∈ WG := xWG (List.mem_of_getElem? (i := 71) (by decide +kernel)) (by decide +kernel)
theorem tk_55_57_59 : xThr RX5 55 57 59 "java/lang/IllegalStateException" "no more words, or no more beats" := ⟨rfl, by decide +kernel, ⟨wd_513, wd_71⟩, by decide +kernel, tw_59a, tw_59b, tw_59c⟩
theorem tk_55_73_59 : xThr RX5 55 73 59 "java/lang/IllegalStateException" "the beat would be above the last one" := ⟨rfl, by decide +kernel, ⟨wd_513, wd_71⟩, by decide +kernel, tw_59a, tw_59b, tw_59c⟩
set_option maxRecDepth 100000 in
theorem tw_90a : ∀ w ∈ (vx_atS RX5 90 "java/lang/IndexOutOfBoundsException" ["java/lang/RuntimeException", "java/lang/Exception"]).filter goodWord, w ∈ WG := by decide +kernel
set_option maxRecDepth 100000 in
theorem tw_90b : ∀ w ∈ (vx_atS RX5 90 "java/lang/IndexOutOfBoundsException" ["java/lang/RuntimeException", "java/lang/Exception"]).filter (fun w => !goodWord w), w ∈ WN := by decide +kernel
set_option maxRecDepth 100000 in
theorem tw_90c : ∀ w ∈ Cond.classLink RX5 86 "java/lang/IndexOutOfBoundsException" :: Cond.initialized "java/lang/IndexOutOfBoundsException" :: vx_atS RX5 90 "java/lang/IndexOutOfBoundsException" ["java/lang/RuntimeException", "java/lang/Exception"], vx_ot w = true := by decide +kernel
theorem wd_422 : (Jvm.Cond.classLink "EchoLine" (86 : Nat) "java/lang/IndexOutOfBoundsException") ∈ WG := xWG (List.mem_of_getElem? (i := 422) (by decide +kernel)) (by decide +kernel)
theorem wd_69 : (Jvm.Cond.initialized "java/lang/IndexOutOfBoundsException") ∈ WG := xWG (List.mem_of_getElem? (i := 69) (by decide +kernel)) (by decide +kernel)
theorem tk_86_88_90 : xThr RX5 86 88 90 "java/lang/IndexOutOfBoundsException" "no such setting" := ⟨rfl, by decide +kernel, ⟨wd_422, wd_69⟩, by decide +kernel, tw_90a, tw_90b, tw_90c⟩
theorem tk_55_103_59 : xThr RX5 55 103 59 "java/lang/IllegalStateException" "the buffer is full" := ⟨rfl, by decide +kernel, ⟨wd_513, wd_71⟩, by decide +kernel, tw_59a, tw_59b, tw_59c⟩
theorem tk_55_126_59 : xThr RX5 55 126 59 "java/lang/IllegalStateException" "no saved state" := ⟨rfl, by decide +kernel, ⟨wd_513, wd_71⟩, by decide +kernel, tw_59a, tw_59b, tw_59c⟩
theorem tk_55_140_59 : xThr RX5 55 140 59 "java/lang/IllegalStateException" "no snapshot" := ⟨rfl, by decide +kernel, ⟨wd_513, wd_71⟩, by decide +kernel, tw_59a, tw_59b, tw_59c⟩
theorem tk_86_221_90 : xThr RX5 86 221 90 "java/lang/IndexOutOfBoundsException" "no such seat" := ⟨rfl, by decide +kernel, ⟨wd_422, wd_69⟩, by decide +kernel, tw_90a, tw_90b, tw_90c⟩
set_option maxRecDepth 100000 in
theorem tw_227a : ∀ w ∈ (vx_atS RX5 227 "java/lang/IllegalArgumentException" ["java/lang/RuntimeException", "java/lang/Exception"]).filter goodWord, w ∈ WG := by decide +kernel
set_option maxRecDepth 100000 in
theorem tw_227b : ∀ w ∈ (vx_atS RX5 227 "java/lang/IllegalArgumentException" ["java/lang/RuntimeException", "java/lang/Exception"]).filter (fun w => !goodWord w), w ∈ WN := by decide +kernel
set_option maxRecDepth 100000 in
theorem tw_227c : ∀ w ∈ Cond.classLink RX5 223 "java/lang/IllegalArgumentException" :: Cond.initialized "java/lang/IllegalArgumentException" :: vx_atS RX5 227 "java/lang/IllegalArgumentException" ["java/lang/RuntimeException", "java/lang/Exception"], vx_ot w = true := by decide +kernel
theorem wd_493 : (Jvm.Cond.classLink "EchoLine" (223 : Nat) "java/lang/IllegalArgumentException") ∈ WG := xWG (List.mem_of_getElem? (i := 493) (by decide +kernel)) (by decide +kernel)
theorem wd_70 : (Jvm.Cond.initialized "java/lang/IllegalArgumentException") ∈ WG := xWG (List.mem_of_getElem? (i := 70) (by decide +kernel)) (by decide +kernel)
theorem tk_223_225_227 : xThr RX5 223 225 227 "java/lang/IllegalArgumentException" "out of range, or not a complete dialogue" := ⟨rfl, by decide +kernel, ⟨wd_493, wd_70⟩, by decide +kernel, tw_227a, tw_227b, tw_227c⟩
abbrev rm_X0_init : Room := { frames := 1, cells := 28, slots := 5687, locals := 20 }
abbrev rm_X0_become : Room := { frames := 1, cells := 0, slots := 0, locals := 50 }
abbrev rm_X0_canSpeak : Room := { frames := 0, cells := 0, slots := 0, locals := 0 }
abbrev rm_X0_speak : Room := { frames := 2, cells := 0, slots := 0, locals := 50 }
abbrev rm_X0_canRest : Room := { frames := 0, cells := 0, slots := 0, locals := 0 }
abbrev rm_X0_rest : Room := { frames := 2, cells := 0, slots := 0, locals := 50 }
abbrev rm_X0_endBeat : Room := { frames := 1, cells := 0, slots := 0, locals := 28 }
abbrev rm_X0_delayBetween : Room := { frames := 1, cells := 0, slots := 0, locals := 21 }
abbrev rm_X0_secondLast : Room := { frames := 0, cells := 0, slots := 0, locals := 0 }
abbrev rm_X0_messagePlace : Room := { frames := 0, cells := 0, slots := 0, locals := 0 }
abbrev rm_X1_init : Room := { frames := 1, cells := 0, slots := 0, locals := 20 }
abbrev rm_X1_take : Room := { frames := 0, cells := 0, slots := 0, locals := 0 }
abbrev rm_X1_bitsOf : Room := { frames := 0, cells := 0, slots := 0, locals := 0 }
abbrev rm_X2_init : Room := { frames := 1, cells := 1, slots := 6, locals := 20 }
abbrev rm_X2_save : Room := { frames := 2, cells := 29, slots := 5699, locals := 72 }
abbrev rm_X2_dropOldest : Room := { frames := 0, cells := 0, slots := 0, locals := 0 }
abbrev rm_X2_latest : Room := { frames := 0, cells := 0, slots := 0, locals := 0 }
abbrev rm_X2_dropLatest : Room := { frames := 0, cells := 0, slots := 0, locals := 0 }
abbrev rm_X3_init : Room := { frames := 1, cells := 0, slots := 0, locals := 20 }
abbrev rm_X3_ofWord : Room := { frames := 1, cells := 0, slots := 0, locals := 24 }
abbrev rm_X3_maskOf : Room := { frames := 0, cells := 0, slots := 0, locals := 0 }
abbrev rm_X3_ofBeat : Room := { frames := 1, cells := 0, slots := 0, locals := 23 }
abbrev rm_X3_isRepeated : Room := { frames := 0, cells := 0, slots := 0, locals := 0 }
abbrev rm_X3_ofSpeaker : Room := { frames := 2, cells := 0, slots := 0, locals := 46 }
abbrev rm_X3_heardBeats : Room := { frames := 0, cells := 0, slots := 0, locals := 0 }
abbrev rm_X3_heardWordsByBeats : Room := { frames := 0, cells := 0, slots := 0, locals := 0 }
abbrev rm_X3_heardWordsByWords : Room := { frames := 0, cells := 0, slots := 0, locals := 0 }
abbrev rm_X3_repeatedBeats : Room := { frames := 1, cells := 0, slots := 0, locals := 23 }
abbrev rm_X3_gaps : Room := { frames := 0, cells := 0, slots := 0, locals := 0 }
abbrev rm_X3_wordsSaidBy : Room := { frames := 0, cells := 0, slots := 0, locals := 0 }
abbrev rm_X3_hearingOf : Room := { frames := 1, cells := 0, slots := 0, locals := 21 }
abbrev rm_X3_ofAll : Room := { frames := 4, cells := 0, slots := 0, locals := 97 }
abbrev rm_X3_wordsHeardByMask : Room := { frames := 1, cells := 0, slots := 0, locals := 24 }
abbrev rm_X3_messages : Room := { frames := 0, cells := 0, slots := 0, locals := 0 }
abbrev rm_X3_messagesHeardWhole : Room := { frames := 3, cells := 0, slots := 0, locals := 74 }
abbrev rm_X3_allHeardWhole : Room := { frames := 2, cells := 0, slots := 0, locals := 51 }
abbrev rm_X3_whyUnheard : Room := { frames := 0, cells := 0, slots := 0, locals := 0 }
abbrev rm_X3_silentBeatsUntilHeard : Room := { frames := 1, cells := 0, slots := 0, locals := 28 }
abbrev rm_X3_bestPlace : Room := { frames := 2, cells := 0, slots := 0, locals := 46 }
abbrev rm_X3_share : Room := { frames := 1, cells := 0, slots := 0, locals := 23 }
abbrev rm_X4_init : Room := { frames := 1, cells := 1, slots := 60, locals := 20 }
abbrev rm_X4_add : Room := { frames := 0, cells := 0, slots := 0, locals := 0 }
abbrev rm_X4_errorPlace : Room := { frames := 3, cells := 0, slots := 0, locals := 63 }
abbrev rm_X4_isComplete : Room := { frames := 3, cells := 0, slots := 0, locals := 63 }
abbrev rm_X4_next : Room := { frames := 2, cells := 0, slots := 0, locals := 42 }
abbrev rm_X4_behindWord : Room := { frames := 1, cells := 0, slots := 0, locals := 20 }
abbrev rm_X4_behindPart : Room := { frames := 0, cells := 0, slots := 0, locals := 0 }
abbrev rm_X4_pauseDigit : Room := { frames := 1, cells := 0, slots := 0, locals := 22 }
abbrev rm_X4_isDigit : Room := { frames := 1, cells := 0, slots := 0, locals := 22 }
abbrev rm_X4_happenIn : Room := { frames := 5, cells := 0, slots := 0, locals := 128 }
abbrev rm_X4_partHappens : Room := { frames := 4, cells := 0, slots := 0, locals := 105 }
abbrev rm_X4_restIn : Room := { frames := 3, cells := 0, slots := 0, locals := 72 }
abbrev rm_X4_speakIn : Room := { frames := 3, cells := 0, slots := 0, locals := 76 }
abbrev rm_X5_init : Room := { frames := 2, cells := 34, slots := 5770, locals := 41 }
abbrev rm_X5_say : Room := { frames := 7, cells := 32, slots := 5717, locals := 102 }
abbrev rm_X5_pass : Room := { frames := 7, cells := 31, slots := 5711, locals := 102 }
abbrev rm_X5_wall : Room := { frames := 7, cells := 31, slots := 5711, locals := 102 }
abbrev rm_X5_set : Room := { frames := 7, cells := 31, slots := 5711, locals := 102 }
abbrev rm_X5_append : Room := { frames := 7, cells := 2, slots := 12, locals := 102 }
abbrev rm_X5_clearBuffer : Room := { frames := 0, cells := 0, slots := 0, locals := 0 }
abbrev rm_X5_firstError : Room := { frames := 4, cells := 0, slots := 0, locals := 85 }
abbrev rm_X5_talk : Room := { frames := 7, cells := 30, slots := 5705, locals := 151 }
abbrev rm_X5_undo : Room := { frames := 6, cells := 1, slots := 6, locals := 82 }
abbrev rm_X5_keep : Room := { frames := 2, cells := 29, slots := 5699, locals := 72 }
abbrev rm_X5_restore : Room := { frames := 6, cells := 30, slots := 5705, locals := 94 }
abbrev rm_X5_said : Room := { frames := 7, cells := 1, slots := 6, locals := 102 }
abbrev rm_X5_comes : Room := { frames := 7, cells := 2, slots := 12, locals := 102 }
abbrev rm_X5_heard : Room := { frames := 7, cells := 2, slots := 12, locals := 102 }
abbrev rm_X5_speaker : Room := { frames := 7, cells := 2, slots := 12, locals := 102 }
abbrev rm_X5_message : Room := { frames := 7, cells := 3, slots := 18, locals := 102 }
abbrev rm_X5_count : Room := { frames := 7, cells := 1, slots := 6, locals := 139 }
abbrev rm_X5_whyNot : Room := { frames := 7, cells := 2, slots := 12, locals := 102 }
abbrev rm_X5_ifSilent : Room := { frames := 7, cells := 1, slots := 6, locals := 102 }
abbrev rm_X5_heardIn : Room := { frames := 7, cells := 2, slots := 12, locals := 102 }
abbrev rm_X5_bestSeat : Room := { frames := 3, cells := 0, slots := 0, locals := 74 }
abbrev rm_X5_heardShare : Room := { frames := 2, cells := 0, slots := 0, locals := 45 }
abbrev rm_X5_digest : Room := { frames := 6, cells := 1, slots := 1, locals := 139 }
abbrev rm_X5_takeSpeakers : Room := { frames := 3, cells := 0, slots := 0, locals := 68 }
abbrev rm_X5_takeLatestWords : Room := { frames := 2, cells := 0, slots := 0, locals := 46 }
abbrev rm_X5_takeLatestBeats : Room := { frames := 2, cells := 0, slots := 0, locals := 47 }
abbrev rm_X5_takeMessages : Room := { frames := 2, cells := 0, slots := 0, locals := 51 }
abbrev rm_X5_total : Room := { frames := 5, cells := 0, slots := 0, locals := 118 }
abbrev rm_X5_isWithin : Room := { frames := 0, cells := 0, slots := 0, locals := 0 }
abbrev rm_X5_requireSeat : Room := { frames := 6, cells := 1, slots := 6, locals := 82 }
abbrev rm_X5_require : Room := { frames := 6, cells := 1, slots := 6, locals := 82 }
abbrev rm_X6_init : Room := { frames := 1, cells := 3, slots := 35408, locals := 20 }
abbrev rm_X6_thrown : Room := { frames := 0, cells := 0, slots := 0, locals := 0 }
abbrev rm_X6_in : Room := { frames := 0, cells := 0, slots := 0, locals := 0 }
abbrev rm_X6_goes : Room := { frames := 0, cells := 0, slots := 0, locals := 0 }
abbrev rm_X6_copies : Room := { frames := 0, cells := 0, slots := 0, locals := 0 }
abbrev rm_X6_saves : Room := { frames := 1, cells := 0, slots := 0, locals := 23 }
abbrev rm_X6_part : Room := { frames := 0, cells := 0, slots := 0, locals := 0 }
abbrev rm_X6_isSeat : Room := { frames := 1, cells := 0, slots := 0, locals := 22 }
abbrev rm_X6_apart : Room := { frames := 0, cells := 0, slots := 0, locals := 0 }
abbrev rm_X6_delay : Room := { frames := 1, cells := 0, slots := 0, locals := 22 }
abbrev rm_X6_voice : Room := { frames := 1, cells := 0, slots := 0, locals := 22 }
abbrev rm_X6_ends : Room := { frames := 2, cells := 0, slots := 0, locals := 50 }
abbrev rm_X6_speaks : Room := { frames := 3, cells := 0, slots := 0, locals := 71 }
abbrev rm_X6_canSpeak : Room := { frames := 0, cells := 0, slots := 0, locals := 0 }
abbrev rm_X6_passes : Room := { frames := 3, cells := 0, slots := 0, locals := 71 }
abbrev rm_X6_say : Room := { frames := 4, cells := 0, slots := 0, locals := 98 }
abbrev rm_X6_pass : Room := { frames := 4, cells := 0, slots := 0, locals := 93 }
abbrev rm_X6_wall : Room := { frames := 2, cells := 0, slots := 0, locals := 44 }
abbrev rm_X6_set : Room := { frames := 2, cells := 0, slots := 0, locals := 44 }
abbrev rm_X6_append : Room := { frames := 1, cells := 0, slots := 0, locals := 23 }
abbrev rm_X6_clearBuffer : Room := { frames := 0, cells := 0, slots := 0, locals := 0 }
abbrev rm_X6_isNow : Room := { frames := 1, cells := 0, slots := 0, locals := 22 }
abbrev rm_X6_sign : Room := { frames := 2, cells := 0, slots := 0, locals := 44 }
abbrev rm_X6_digit : Room := { frames := 2, cells := 0, slots := 0, locals := 44 }
abbrev rm_X6_number : Room := { frames := 2, cells := 0, slots := 0, locals := 44 }
abbrev rm_X6_reads : Room := { frames := 3, cells := 0, slots := 0, locals := 66 }
abbrev rm_X6_readsAll : Room := { frames := 4, cells := 0, slots := 0, locals := 87 }
abbrev rm_X6_firstError : Room := { frames := 5, cells := 0, slots := 0, locals := 108 }
abbrev rm_X6_talk : Room := { frames := 5, cells := 0, slots := 0, locals := 108 }
abbrev rm_X6_undo : Room := { frames := 1, cells := 0, slots := 0, locals := 23 }
abbrev rm_X6_keep : Room := { frames := 1, cells := 0, slots := 0, locals := 23 }
abbrev rm_X6_restore : Room := { frames := 2, cells := 0, slots := 0, locals := 44 }
abbrev rm_X6_heardAt : Room := { frames := 1, cells := 0, slots := 0, locals := 22 }
abbrev rm_X6_firstHeard : Room := { frames := 1, cells := 0, slots := 0, locals := 22 }
abbrev rm_X6_hearers : Room := { frames := 2, cells := 0, slots := 0, locals := 46 }
abbrev rm_X6_reached : Room := { frames := 1, cells := 0, slots := 0, locals := 22 }
abbrev rm_X6_ofWord : Room := { frames := 3, cells := 0, slots := 0, locals := 69 }
abbrev rm_X6_said : Room := { frames := 4, cells := 0, slots := 0, locals := 91 }
abbrev rm_X6_comesTo : Room := { frames := 1, cells := 0, slots := 0, locals := 22 }
abbrev rm_X6_comes : Room := { frames := 2, cells := 0, slots := 0, locals := 44 }
abbrev rm_X6_ofHeard : Room := { frames := 2, cells := 0, slots := 0, locals := 44 }
abbrev rm_X6_heard : Room := { frames := 3, cells := 0, slots := 0, locals := 68 }
abbrev rm_X6_distinct : Room := { frames := 2, cells := 0, slots := 0, locals := 46 }
abbrev rm_X6_wordsOf : Room := { frames := 1, cells := 0, slots := 0, locals := 22 }
abbrev rm_X6_gaps : Room := { frames := 2, cells := 0, slots := 0, locals := 44 }
abbrev rm_X6_beatsOf : Room := { frames := 3, cells := 0, slots := 0, locals := 68 }
abbrev rm_X6_ofSpeaker : Room := { frames := 4, cells := 0, slots := 0, locals := 92 }
abbrev rm_X6_speaker : Room := { frames := 5, cells := 0, slots := 0, locals := 114 }
abbrev rm_X6_how : Room := { frames := 2, cells := 0, slots := 0, locals := 46 }
abbrev rm_X6_message : Room := { frames := 3, cells := 0, slots := 0, locals := 75 }
abbrev rm_X6_wordsHeardBy : Room := { frames := 3, cells := 0, slots := 0, locals := 69 }
abbrev rm_X6_messages : Room := { frames := 3, cells := 0, slots := 0, locals := 75 }
abbrev rm_X6_counted : Room := { frames := 4, cells := 0, slots := 0, locals := 100 }
abbrev rm_X6_count : Room := { frames := 5, cells := 0, slots := 0, locals := 121 }
abbrev rm_X6_reason : Room := { frames := 2, cells := 0, slots := 0, locals := 46 }
abbrev rm_X6_whyNot : Room := { frames := 3, cells := 0, slots := 0, locals := 69 }
abbrev rm_X6_ifSilent : Room := { frames := 2, cells := 0, slots := 0, locals := 50 }
abbrev rm_X6_silentBeats : Room := { frames := 2, cells := 0, slots := 0, locals := 50 }
abbrev rm_X6_heardIn : Room := { frames := 3, cells := 0, slots := 0, locals := 74 }
abbrev rm_X6_best : Room := { frames := 2, cells := 0, slots := 0, locals := 47 }
abbrev rm_X6_bestSeat : Room := { frames := 3, cells := 0, slots := 0, locals := 75 }
abbrev rm_X6_share : Room := { frames := 4, cells := 0, slots := 0, locals := 92 }
abbrev rm_X6_heardShare : Room := { frames := 5, cells := 0, slots := 0, locals := 114 }
abbrev rm_X6_digest : Room := { frames := 5, cells := 0, slots := 0, locals := 121 }
abbrev rm_L_say : Room := { frames := 8, cells := 32, slots := 5717, locals := 125 }
abbrev rm_L_pass : Room := { frames := 8, cells := 31, slots := 5711, locals := 123 }
abbrev rm_L_wall : Room := { frames := 8, cells := 31, slots := 5711, locals := 125 }
abbrev rm_L_set : Room := { frames := 8, cells := 31, slots := 5711, locals := 125 }
abbrev rm_L_append : Room := { frames := 8, cells := 2, slots := 12, locals := 123 }
abbrev rm_L_talk : Room := { frames := 8, cells := 30, slots := 5705, locals := 172 }
abbrev rm_L_undo : Room := { frames := 7, cells := 1, slots := 6, locals := 103 }
abbrev rm_L_restore : Room := { frames := 7, cells := 30, slots := 5705, locals := 114 }
abbrev rm_L_said : Room := { frames := 8, cells := 1, slots := 6, locals := 124 }
abbrev rm_L_comes : Room := { frames := 8, cells := 2, slots := 12, locals := 124 }
abbrev rm_L_heard : Room := { frames := 8, cells := 2, slots := 12, locals := 125 }
abbrev rm_L_speaker : Room := { frames := 8, cells := 2, slots := 12, locals := 124 }
abbrev rm_L_message : Room := { frames := 8, cells := 3, slots := 18, locals := 125 }
abbrev rm_L_count : Room := { frames := 8, cells := 1, slots := 6, locals := 160 }
abbrev rm_L_whyNot : Room := { frames := 8, cells := 2, slots := 12, locals := 124 }
abbrev rm_L_ifSilent : Room := { frames := 8, cells := 1, slots := 6, locals := 123 }
abbrev rm_L_heardIn : Room := { frames := 8, cells := 2, slots := 12, locals := 124 }
abbrev rm_L_law : Room := { frames := 9, cells := 274, slots := 81271, locals := 194 }
