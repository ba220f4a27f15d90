-- the words of the tables, by their places; what is static in each access and call
set_option maxRecDepth 100000 in
theorem xcw_0 : ∀ w ∈ u_ws RX0 TX0 12, w ∈ WG := by decide +kernel
theorem xck_0 : ∀ k, k < 12 → (xft 0 k = 0 → tyX0 k = .int) ∧ (xft 0 k = 1 → tyX0 k = .long) ∧ (xft 0 k = 2 → (∃ C, tyX0 k = .object C) ∨ ∃ t, tyX0 k = .array t) ∧ (xft 0 k = 3 → tyX0 k = .boolean) ∧ xft 0 k < 4 := fun k hk => match k, hk with
  | 0, _ => ⟨fun _ => rfl, fun h => absurd h (by decide), fun h => absurd h (by decide), fun h => absurd h (by decide), by decide⟩
  | 1, _ => ⟨fun _ => rfl, fun h => absurd h (by decide), fun h => absurd h (by decide), fun h => absurd h (by decide), by decide⟩
  | 2, _ => ⟨fun h => absurd h (by decide), fun h => absurd h (by decide), fun _ => Or.inr ⟨_, rfl⟩, fun h => absurd h (by decide), by decide⟩
  | 3, _ => ⟨fun h => absurd h (by decide), fun h => absurd h (by decide), fun _ => Or.inr ⟨_, rfl⟩, fun h => absurd h (by decide), by decide⟩
  | 4, _ => ⟨fun h => absurd h (by decide), fun h => absurd h (by decide), fun _ => Or.inr ⟨_, rfl⟩, fun h => absurd h (by decide), by decide⟩
  | 5, _ => ⟨fun h => absurd h (by decide), fun h => absurd h (by decide), fun _ => Or.inr ⟨_, rfl⟩, fun h => absurd h (by decide), by decide⟩
  | 6, _ => ⟨fun h => absurd h (by decide), fun h => absurd h (by decide), fun _ => Or.inr ⟨_, rfl⟩, fun h => absurd h (by decide), by decide⟩
  | 7, _ => ⟨fun h => absurd h (by decide), fun h => absurd h (by decide), fun _ => Or.inr ⟨_, rfl⟩, fun h => absurd h (by decide), by decide⟩
  | 8, _ => ⟨fun h => absurd h (by decide), fun h => absurd h (by decide), fun _ => Or.inr ⟨_, rfl⟩, fun h => absurd h (by decide), by decide⟩
  | 9, _ => ⟨fun h => absurd h (by decide), fun h => absurd h (by decide), fun _ => Or.inr ⟨_, rfl⟩, fun h => absurd h (by decide), by decide⟩
  | 10, _ => ⟨fun h => absurd h (by decide), fun h => absurd h (by decide), fun _ => Or.inr ⟨_, rfl⟩, fun h => absurd h (by decide), by decide⟩
  | 11, _ => ⟨fun h => absurd h (by decide), fun h => absurd h (by decide), fun _ => Or.inr ⟨_, rfl⟩, fun h => absurd h (by decide), by decide⟩
  | k + 12, hk => absurd hk (by omega)
theorem xcl_0 : xCls 0 := by
  intro q hq
  cases hq
  exact ⟨xcw_0, nmX0, tyX0, tyX0_ok, xck_0⟩
set_option maxRecDepth 100000 in
theorem xcw_1 : ∀ w ∈ u_ws RX1 TX1 1, w ∈ WG := by decide +kernel
theorem xck_1 : ∀ k, k < 1 → (xft 1 k = 0 → tyX1 k = .int) ∧ (xft 1 k = 1 → tyX1 k = .long) ∧ (xft 1 k = 2 → (∃ C, tyX1 k = .object C) ∨ ∃ t, tyX1 k = .array t) ∧ (xft 1 k = 3 → tyX1 k = .boolean) ∧ xft 1 k < 4 := fun k hk => match k, hk with
  | 0, _ => ⟨fun h => absurd h (by decide), fun _ => rfl, fun h => absurd h (by decide), fun h => absurd h (by decide), by decide⟩
  | k + 1, hk => absurd hk (by omega)
theorem xcl_1 : xCls 1 := by
  intro q hq
  cases hq
  exact ⟨xcw_1, nmX1, tyX1, tyX1_ok, xck_1⟩
set_option maxRecDepth 100000 in
theorem xcw_2 : ∀ w ∈ u_ws RX2 TX2 2, w ∈ WG := by decide +kernel
theorem xck_2 : ∀ k, k < 2 → (xft 2 k = 0 → tyX2 k = .int) ∧ (xft 2 k = 1 → tyX2 k = .long) ∧ (xft 2 k = 2 → (∃ C, tyX2 k = .object C) ∨ ∃ t, tyX2 k = .array t) ∧ (xft 2 k = 3 → tyX2 k = .boolean) ∧ xft 2 k < 4 := fun k hk => match k, hk with
  | 0, _ => ⟨fun _ => rfl, fun h => absurd h (by decide), fun h => absurd h (by decide), fun h => absurd h (by decide), by decide⟩
  | 1, _ => ⟨fun h => absurd h (by decide), fun h => absurd h (by decide), fun _ => Or.inr ⟨_, rfl⟩, fun h => absurd h (by decide), by decide⟩
  | k + 2, hk => absurd hk (by omega)
theorem xcl_2 : xCls 2 := by
  intro q hq
  cases hq
  exact ⟨xcw_2, nmX2, tyX2, tyX2_ok, xck_2⟩
set_option maxRecDepth 100000 in
theorem xcw_3 : ∀ w ∈ u_ws RX3 TX3 1, w ∈ WG := by decide +kernel
theorem xck_3 : ∀ k, k < 1 → (xft 3 k = 0 → tyX3 k = .int) ∧ (xft 3 k = 1 → tyX3 k = .long) ∧ (xft 3 k = 2 → (∃ C, tyX3 k = .object C) ∨ ∃ t, tyX3 k = .array t) ∧ (xft 3 k = 3 → tyX3 k = .boolean) ∧ xft 3 k < 4 := fun k hk => match k, hk with
  | 0, _ => ⟨fun h => absurd h (by decide), fun h => absurd h (by decide), fun _ => Or.inl ⟨_, rfl⟩, fun h => absurd h (by decide), by decide⟩
  | k + 1, hk => absurd hk (by omega)
theorem xcl_3 : xCls 3 := by
  intro q hq
  cases hq
  exact ⟨xcw_3, nmX3, tyX3, tyX3_ok, xck_3⟩
set_option maxRecDepth 100000 in
theorem xcw_4 : ∀ w ∈ u_ws RX4 TX4 2, w ∈ WG := by decide +kernel
theorem xck_4 : ∀ k, k < 2 → (xft 4 k = 0 → tyX4 k = .int) ∧ (xft 4 k = 1 → tyX4 k = .long) ∧ (xft 4 k = 2 → (∃ C, tyX4 k = .object C) ∨ ∃ t, tyX4 k = .array t) ∧ (xft 4 k = 3 → tyX4 k = .boolean) ∧ xft 4 k < 4 := fun k hk => match k, hk with
  | 0, _ => ⟨fun _ => rfl, fun h => absurd h (by decide), fun h => absurd h (by decide), fun h => absurd h (by decide), by decide⟩
  | 1, _ => ⟨fun h => absurd h (by decide), fun h => absurd h (by decide), fun _ => Or.inr ⟨_, rfl⟩, fun h => absurd h (by decide), by decide⟩
  | k + 2, hk => absurd hk (by omega)
theorem xcl_4 : xCls 4 := by
  intro q hq
  cases hq
  exact ⟨xcw_4, nmX4, tyX4, tyX4_ok, xck_4⟩
set_option maxRecDepth 100000 in
theorem xcw_5 : ∀ w ∈ u_ws RX5 TX5 5, w ∈ WG := by decide +kernel
theorem xck_5 : ∀ k, k < 5 → (xft 5 k = 0 → tyX5 k = .int) ∧ (xft 5 k = 1 → tyX5 k = .long) ∧ (xft 5 k = 2 → (∃ C, tyX5 k = .object C) ∨ ∃ t, tyX5 k = .array t) ∧ (xft 5 k = 3 → tyX5 k = .boolean) ∧ xft 5 k < 4 := fun k hk => match k, hk with
  | 0, _ => ⟨fun h => absurd h (by decide), fun h => absurd h (by decide), fun _ => Or.inl ⟨_, rfl⟩, fun h => absurd h (by decide), by decide⟩
  | 1, _ => ⟨fun h => absurd h (by decide), fun h => absurd h (by decide), fun _ => Or.inl ⟨_, rfl⟩, fun h => absurd h (by decide), by decide⟩
  | 2, _ => ⟨fun h => absurd h (by decide), fun h => absurd h (by decide), fun _ => Or.inl ⟨_, rfl⟩, fun h => absurd h (by decide), by decide⟩
  | 3, _ => ⟨fun h => absurd h (by decide), fun h => absurd h (by decide), fun _ => Or.inl ⟨_, rfl⟩, fun h => absurd h (by decide), by decide⟩
  | 4, _ => ⟨fun h => absurd h (by decide), fun h => absurd h (by decide), fun _ => Or.inl ⟨_, rfl⟩, fun h => absurd h (by decide), by decide⟩
  | k + 5, hk => absurd hk (by omega)
theorem xcl_5 : xCls 5 := by
  intro q hq
  cases hq
  exact ⟨xcw_5, nmX5, tyX5, tyX5_ok, xck_5⟩
set_option maxRecDepth 1000000 in
theorem wd_48 : (Jvm.Cond.methodLink "EchoLine$Chamber" (3 : Nat) ({ cls := "java/lang/Object", name := "<init>", desc := "()V" } : Jvm.MethodName)) ∈ WG := xWG (List.mem_of_getElem? (i := 48) rfl) (by decide +kernel)
set_option maxRecDepth 1000000 in
theorem wd_41 : (Jvm.Cond.instanceMethod ({ cls := "java/lang/Object", name := "<init>", desc := "()V" } : Jvm.MethodName)) ∈ WG := xWG (List.mem_of_getElem? (i := 41) rfl) (by decide +kernel)
set_option maxRecDepth 1000000 in
theorem wd_42 : (Jvm.Cond.code ({ cls := "java/lang/Object", name := "<init>", desc := "()V" } : Jvm.MethodName) object_method_1_code (1 : Nat) (Option.none : Option Jvm.ClassFile.FieldType)) ∈ WG := xWG (List.mem_of_getElem? (i := 42) rfl) (by decide +kernel)
set_option maxRecDepth 1000000 in
theorem wd_105 : (Jvm.Cond.arrayClass Jvm.ClassFile.FieldType.int) ∈ WG := xWG (List.mem_of_getElem? (i := 105) rfl) (by decide +kernel)
set_option maxRecDepth 1000000 in
theorem wd_57 : (Jvm.Cond.fieldLink "EchoLine$Chamber" (9 : Nat) "EchoLine$Chamber" "walls" "[I") ∈ WG := xWG (List.mem_of_getElem? (i := 57) rfl) (by decide +kernel)
theorem fk_X0_9 : xFld RX0 9 0 12 2 2 := ⟨by decide, RX0, TX0, rfl, by decide, rfl, wd_57⟩
set_option maxRecDepth 1000000 in
theorem wd_60 : (Jvm.Cond.fieldLink "EchoLine$Chamber" (15 : Nat) "EchoLine$Chamber" "settings" "[I") ∈ WG := xWG (List.mem_of_getElem? (i := 60) rfl) (by decide +kernel)
theorem fk_X0_15 : xFld RX0 15 0 12 3 2 := ⟨by decide, RX0, TX0, rfl, by decide, rfl, wd_60⟩
set_option maxRecDepth 1000000 in
theorem wd_63 : (Jvm.Cond.fieldLink "EchoLine$Chamber" (18 : Nat) "EchoLine$Chamber" "seatOf" "[I") ∈ WG := xWG (List.mem_of_getElem? (i := 63) rfl) (by decide +kernel)
theorem fk_X0_18 : xFld RX0 18 0 12 4 2 := ⟨by decide, RX0, TX0, rfl, by decide, rfl, wd_63⟩
set_option maxRecDepth 1000000 in
theorem wd_65 : (Jvm.Cond.fieldLink "EchoLine$Chamber" (21 : Nat) "EchoLine$Chamber" "wordOf" "[I") ∈ WG := xWG (List.mem_of_getElem? (i := 65) rfl) (by decide +kernel)
theorem fk_X0_21 : xFld RX0 21 0 12 5 2 := ⟨by decide, RX0, TX0, rfl, by decide, rfl, wd_65⟩
set_option maxRecDepth 1000000 in
theorem wd_67 : (Jvm.Cond.fieldLink "EchoLine$Chamber" (24 : Nat) "EchoLine$Chamber" "markOf" "[I") ∈ WG := xWG (List.mem_of_getElem? (i := 67) rfl) (by decide +kernel)
theorem fk_X0_24 : xFld RX0 24 0 12 6 2 := ⟨by decide, RX0, TX0, rfl, by decide, rfl, wd_67⟩
set_option maxRecDepth 1000000 in
theorem wd_69 : (Jvm.Cond.fieldLink "EchoLine$Chamber" (27 : Nat) "EchoLine$Chamber" "saidAt" "[I") ∈ WG := xWG (List.mem_of_getElem? (i := 69) rfl) (by decide +kernel)
theorem fk_X0_27 : xFld RX0 27 0 12 7 2 := ⟨by decide, RX0, TX0, rfl, by decide, rfl, wd_69⟩
set_option maxRecDepth 1000000 in
theorem wd_49 : (Jvm.Cond.classLink "EchoLine$Chamber" (30 : Nat) "[[I") ∈ WG := xWG (List.mem_of_getElem? (i := 49) rfl) (by decide +kernel)
set_option maxRecDepth 1000000 in
theorem wd_71 : (Jvm.Cond.fieldLink "EchoLine$Chamber" (32 : Nat) "EchoLine$Chamber" "comesAt" "[[I") ∈ WG := xWG (List.mem_of_getElem? (i := 71) rfl) (by decide +kernel)
theorem fk_X0_32 : xFld RX0 32 0 12 8 2 := ⟨by decide, RX0, TX0, rfl, by decide, rfl, wd_71⟩
set_option maxRecDepth 1000000 in
theorem wd_74 : (Jvm.Cond.fieldLink "EchoLine$Chamber" (35 : Nat) "EchoLine$Chamber" "firstHeardAt" "[[I") ∈ WG := xWG (List.mem_of_getElem? (i := 74) rfl) (by decide +kernel)
theorem fk_X0_35 : xFld RX0 35 0 12 9 2 := ⟨by decide, RX0, TX0, rfl, by decide, rfl, wd_74⟩
set_option maxRecDepth 1000000 in
theorem wd_76 : (Jvm.Cond.fieldLink "EchoLine$Chamber" (38 : Nat) "EchoLine$Chamber" "heardNumber" "[[I") ∈ WG := xWG (List.mem_of_getElem? (i := 76) rfl) (by decide +kernel)
theorem fk_X0_38 : xFld RX0 38 0 12 10 2 := ⟨by decide, RX0, TX0, rfl, by decide, rfl, wd_76⟩
set_option maxRecDepth 1000000 in
theorem wd_78 : (Jvm.Cond.fieldLink "EchoLine$Chamber" (41 : Nat) "EchoLine$Chamber" "messageWords" "[I") ∈ WG := xWG (List.mem_of_getElem? (i := 78) rfl) (by decide +kernel)
theorem fk_X0_41 : xFld RX0 41 0 12 11 2 := ⟨by decide, RX0, TX0, rfl, by decide, rfl, wd_78⟩
set_option maxRecDepth 1000000 in
theorem wd_51 : (Jvm.Cond.fieldLink "EchoLine$Chamber" (44 : Nat) "EchoLine$Chamber" "beat" "I") ∈ WG := xWG (List.mem_of_getElem? (i := 51) rfl) (by decide +kernel)
theorem fk_X0_44 : xFld RX0 44 0 12 0 0 := ⟨by decide, RX0, TX0, rfl, by decide, rfl, wd_51⟩
set_option maxRecDepth 1000000 in
theorem wd_54 : (Jvm.Cond.fieldLink "EchoLine$Chamber" (48 : Nat) "EchoLine$Chamber" "words" "I") ∈ WG := xWG (List.mem_of_getElem? (i := 54) rfl) (by decide +kernel)
theorem fk_X0_48 : xFld RX0 48 0 12 1 0 := ⟨by decide, RX0, TX0, rfl, by decide, rfl, wd_54⟩
set_option maxRecDepth 1000000 in
theorem wd_171 : (Jvm.Cond.methodLink "EchoLine$Chamber" (51 : Nat) ({ cls := "java/lang/System", name := "arraycopy", desc := "(Ljava/lang/Object;ILjava/lang/Object;II)V" } : Jvm.MethodName)) ∈ WG := xWG (List.mem_of_getElem? (i := 171) rfl) (by decide +kernel)
set_option maxRecDepth 1000000 in
theorem wd_173 : (Jvm.Cond.native ({ cls := "java/lang/System", name := "arraycopy", desc := "(Ljava/lang/Object;ILjava/lang/Object;II)V" } : Jvm.MethodName)) ∈ WG := xWG (List.mem_of_getElem? (i := 173) rfl) (by decide +kernel)
set_option maxRecDepth 1000000 in
theorem wd_172 : (Jvm.Cond.static ({ cls := "java/lang/System", name := "arraycopy", desc := "(Ljava/lang/Object;ILjava/lang/Object;II)V" } : Jvm.MethodName)) ∈ WG := xWG (List.mem_of_getElem? (i := 172) rfl) (by decide +kernel)
set_option maxRecDepth 1000000 in
theorem wd_30 : (Jvm.Cond.initialized "java/lang/System") ∈ WG := xWG (List.mem_of_getElem? (i := 30) rfl) (by decide +kernel)
set_option maxRecDepth 1000000 in
theorem wd_568 : (Jvm.Cond.methodLink "EchoLine$Chamber" (57 : Nat) ({ cls := "EchoLine$Chamber", name := "delayBetween", desc := "(II)I" } : Jvm.MethodName)) ∈ WG := xWG (List.mem_of_getElem? (i := 568) rfl) (by decide +kernel)
set_option maxRecDepth 1000000 in
theorem wd_183 : (Jvm.Cond.instanceMethod ({ cls := "EchoLine$Chamber", name := "delayBetween", desc := "(II)I" } : Jvm.MethodName)) ∈ WG := xWG (List.mem_of_getElem? (i := 183) rfl) (by decide +kernel)
set_option maxRecDepth 1000000 in
theorem wd_184 : (Jvm.Cond.selects "EchoLine$Chamber" ({ cls := "EchoLine$Chamber", name := "delayBetween", desc := "(II)I" } : Jvm.MethodName) ({ cls := "EchoLine$Chamber", name := "delayBetween", desc := "(II)I" } : Jvm.MethodName)) ∈ WG := xWG (List.mem_of_getElem? (i := 184) rfl) (by decide +kernel)
set_option maxRecDepth 1000000 in
theorem wd_22 : (Jvm.Cond.initialized "EchoLine$Chamber") ∈ WG := xWG (List.mem_of_getElem? (i := 22) rfl) (by decide +kernel)
set_option maxRecDepth 1000000 in
theorem wd_185 : (Jvm.Cond.code ({ cls := "EchoLine$Chamber", name := "delayBetween", desc := "(II)I" } : Jvm.MethodName) prog_2_method_8_code (6 : Nat) (Option.some Jvm.ClassFile.FieldType.int)) ∈ WG := xWG (List.mem_of_getElem? (i := 185) rfl) (by decide +kernel)
theorem ck_X0_57 : xCal RX0 57 RX0 yX0_delayBetween cX0_delayBetween 6 (some .int) 2 := ⟨⟨wd_568, wd_183, wd_184, wd_22, wd_185⟩, rfl, by decide +kernel, by decide +kernel, by decide +kernel⟩
set_option maxRecDepth 1000000 in
theorem wd_569 : (Jvm.Cond.methodLink "EchoLine$Chamber" (61 : Nat) ({ cls := "EchoLine$Chamber", name := "messagePlace", desc := "(II)I" } : Jvm.MethodName)) ∈ WG := xWG (List.mem_of_getElem? (i := 569) rfl) (by decide +kernel)
set_option maxRecDepth 1000000 in
theorem wd_256 : (Jvm.Cond.static ({ cls := "EchoLine$Chamber", name := "messagePlace", desc := "(II)I" } : Jvm.MethodName)) ∈ WG := xWG (List.mem_of_getElem? (i := 256) rfl) (by decide +kernel)
set_option maxRecDepth 1000000 in
theorem wd_257 : (Jvm.Cond.code ({ cls := "EchoLine$Chamber", name := "messagePlace", desc := "(II)I" } : Jvm.MethodName) prog_2_method_10_code (2 : Nat) (Option.some Jvm.ClassFile.FieldType.int)) ∈ WG := xWG (List.mem_of_getElem? (i := 257) rfl) (by decide +kernel)
theorem ck_X0_61 : xCaS RX0 61 yX0_messagePlace cX0_messagePlace 2 (some .int) 2 := ⟨⟨wd_569, wd_256, wd_22, wd_257⟩, by decide +kernel, by decide +kernel, by decide +kernel⟩
set_option maxRecDepth 1000000 in
theorem wd_547 : (Jvm.Cond.methodLink "EchoLine$Chamber" (64 : Nat) ({ cls := "EchoLine$Chamber", name := "endBeat", desc := "()V" } : Jvm.MethodName)) ∈ WG := xWG (List.mem_of_getElem? (i := 547) rfl) (by decide +kernel)
set_option maxRecDepth 1000000 in
theorem wd_549 : (Jvm.Cond.instanceMethod ({ cls := "EchoLine$Chamber", name := "endBeat", desc := "()V" } : Jvm.MethodName)) ∈ WG := xWG (List.mem_of_getElem? (i := 549) rfl) (by decide +kernel)
set_option maxRecDepth 1000000 in
theorem wd_19 : (Jvm.Cond.selects "EchoLine$Chamber" ({ cls := "EchoLine$Chamber", name := "endBeat", desc := "()V" } : Jvm.MethodName) ({ cls := "EchoLine$Chamber", name := "endBeat", desc := "()V" } : Jvm.MethodName)) ∈ WG := xWG (List.mem_of_getElem? (i := 19) rfl) (by decide +kernel)
set_option maxRecDepth 1000000 in
theorem wd_550 : (Jvm.Cond.code ({ cls := "EchoLine$Chamber", name := "endBeat", desc := "()V" } : Jvm.MethodName) prog_2_method_7_code (3 : Nat) (Option.none : Option Jvm.ClassFile.FieldType)) ∈ WG := xWG (List.mem_of_getElem? (i := 550) rfl) (by decide +kernel)
theorem ck_X0_64 : xCal RX0 64 RX0 yX0_endBeat cX0_endBeat 3 none 0 := ⟨⟨wd_547, wd_549, wd_19, wd_22, wd_550⟩, rfl, by decide +kernel, by decide +kernel, by decide +kernel⟩
set_option maxRecDepth 1000000 in
theorem wd_551 : (Jvm.Cond.methodLink "EchoLine$Chamber" (67 : Nat) ({ cls := "EchoLine$Chamber", name := "secondLast", desc := "(II)I" } : Jvm.MethodName)) ∈ WG := xWG (List.mem_of_getElem? (i := 551) rfl) (by decide +kernel)
set_option maxRecDepth 1000000 in
theorem wd_296 : (Jvm.Cond.instanceMethod ({ cls := "EchoLine$Chamber", name := "secondLast", desc := "(II)I" } : Jvm.MethodName)) ∈ WG := xWG (List.mem_of_getElem? (i := 296) rfl) (by decide +kernel)
set_option maxRecDepth 1000000 in
theorem wd_297 : (Jvm.Cond.selects "EchoLine$Chamber" ({ cls := "EchoLine$Chamber", name := "secondLast", desc := "(II)I" } : Jvm.MethodName) ({ cls := "EchoLine$Chamber", name := "secondLast", desc := "(II)I" } : Jvm.MethodName)) ∈ WG := xWG (List.mem_of_getElem? (i := 297) rfl) (by decide +kernel)
set_option maxRecDepth 1000000 in
theorem wd_298 : (Jvm.Cond.code ({ cls := "EchoLine$Chamber", name := "secondLast", desc := "(II)I" } : Jvm.MethodName) prog_2_method_9_code (9 : Nat) (Option.some Jvm.ClassFile.FieldType.int)) ∈ WG := xWG (List.mem_of_getElem? (i := 298) rfl) (by decide +kernel)
theorem ck_X0_67 : xCal RX0 67 RX0 yX0_secondLast cX0_secondLast 9 (some .int) 2 := ⟨⟨wd_551, wd_296, wd_297, wd_22, wd_298⟩, rfl, by decide +kernel, by decide +kernel, by decide +kernel⟩
set_option maxRecDepth 1000000 in
theorem wd_186 : (Jvm.Cond.methodLink "EchoLine$Chamber" (70 : Nat) ({ cls := "java/lang/Math", name := "abs", desc := "(I)I" } : Jvm.MethodName)) ∈ WG := xWG (List.mem_of_getElem? (i := 186) rfl) (by decide +kernel)
set_option maxRecDepth 1000000 in
theorem wd_187 : (Jvm.Cond.static ({ cls := "java/lang/Math", name := "abs", desc := "(I)I" } : Jvm.MethodName)) ∈ WG := xWG (List.mem_of_getElem? (i := 187) rfl) (by decide +kernel)
set_option maxRecDepth 1000000 in
theorem wd_31 : (Jvm.Cond.initialized "java/lang/Math") ∈ WG := xWG (List.mem_of_getElem? (i := 31) rfl) (by decide +kernel)
set_option maxRecDepth 1000000 in
theorem wd_188 : (Jvm.Cond.code ({ cls := "java/lang/Math", name := "abs", desc := "(I)I" } : Jvm.MethodName) prog_13_method_59_code (1 : Nat) (Option.some Jvm.ClassFile.FieldType.int)) ∈ WG := xWG (List.mem_of_getElem? (i := 188) rfl) (by decide +kernel)
set_option maxRecDepth 1000000 in
theorem wd_189 : (Jvm.Cond.methodLink "EchoLine$Chamber" (76 : Nat) ({ cls := "java/lang/Math", name := "min", desc := "(II)I" } : Jvm.MethodName)) ∈ WG := xWG (List.mem_of_getElem? (i := 189) rfl) (by decide +kernel)
set_option maxRecDepth 1000000 in
theorem wd_190 : (Jvm.Cond.static ({ cls := "java/lang/Math", name := "min", desc := "(II)I" } : Jvm.MethodName)) ∈ WG := xWG (List.mem_of_getElem? (i := 190) rfl) (by decide +kernel)
set_option maxRecDepth 1000000 in
theorem wd_191 : (Jvm.Cond.code ({ cls := "java/lang/Math", name := "min", desc := "(II)I" } : Jvm.MethodName) prog_13_method_69_code (2 : Nat) (Option.some Jvm.ClassFile.FieldType.int)) ∈ WG := xWG (List.mem_of_getElem? (i := 191) rfl) (by decide +kernel)
set_option maxRecDepth 1000000 in
theorem wd_216 : (Jvm.Cond.methodLink "EchoLine$Hash" (3 : Nat) ({ cls := "java/lang/Object", name := "<init>", desc := "()V" } : Jvm.MethodName)) ∈ WG := xWG (List.mem_of_getElem? (i := 216) rfl) (by decide +kernel)
set_option maxRecDepth 1000000 in
theorem wd_217 : (Jvm.Cond.constantLong "EchoLine$Hash" (9 : Nat) (3853 : Int64)) ∈ WG := xWG (List.mem_of_getElem? (i := 217) rfl) (by decide +kernel)
set_option maxRecDepth 1000000 in
theorem wd_218 : (Jvm.Cond.fieldLink "EchoLine$Hash" (11 : Nat) "EchoLine$Hash" "value" "J") ∈ WG := xWG (List.mem_of_getElem? (i := 218) rfl) (by decide +kernel)
theorem fk_X1_11 : xFld RX1 11 1 1 0 1 := ⟨by decide, RX1, TX1, rfl, by decide, rfl, wd_218⟩
set_option maxRecDepth 1000000 in
theorem wd_262 : (Jvm.Cond.constantLong "EchoLine$Hash" (15 : Nat) (31 : Int64)) ∈ WG := xWG (List.mem_of_getElem? (i := 262) rfl) (by decide +kernel)
set_option maxRecDepth 1000000 in
theorem wd_334 : (Jvm.Cond.constantDouble "EchoLine$Hash" (17 : Nat) (4611686018427387904 : UInt64)) ∈ WG := xWG (List.mem_of_getElem? (i := 334) rfl) (by decide +kernel)
set_option maxRecDepth 1000000 in
theorem wd_335 : (Jvm.Cond.constantDouble "EchoLine$Hash" (19 : Nat) (4841369599423283200 : UInt64)) ∈ WG := xWG (List.mem_of_getElem? (i := 335) rfl) (by decide +kernel)
set_option maxRecDepth 1000000 in
theorem wd_121 : (Jvm.Cond.methodLink "EchoLine$History" (3 : Nat) ({ cls := "java/lang/Object", name := "<init>", desc := "()V" } : Jvm.MethodName)) ∈ WG := xWG (List.mem_of_getElem? (i := 121) rfl) (by decide +kernel)
set_option maxRecDepth 1000000 in
theorem wd_122 : (Jvm.Cond.classLink "EchoLine$History" (9 : Nat) "EchoLine$Chamber") ∈ WG := xWG (List.mem_of_getElem? (i := 122) rfl) (by decide +kernel)
set_option maxRecDepth 1000000 in
theorem wd_126 : (Jvm.Cond.fieldLink "EchoLine$History" (11 : Nat) "EchoLine$History" "saved" "[LEchoLine$Chamber;") ∈ WG := xWG (List.mem_of_getElem? (i := 126) rfl) (by decide +kernel)
theorem fk_X2_11 : xFld RX2 11 2 2 1 2 := ⟨by decide, RX2, TX2, rfl, by decide, rfl, wd_126⟩
set_option maxRecDepth 1000000 in
theorem wd_124 : (Jvm.Cond.fieldLink "EchoLine$History" (17 : Nat) "EchoLine$History" "size" "I") ∈ WG := xWG (List.mem_of_getElem? (i := 124) rfl) (by decide +kernel)
theorem fk_X2_17 : xFld RX2 17 2 2 0 0 := ⟨by decide, RX2, TX2, rfl, by decide, rfl, wd_124⟩
set_option maxRecDepth 1000000 in
theorem wd_438 : (Jvm.Cond.methodLink "EchoLine$History" (21 : Nat) ({ cls := "EchoLine$History", name := "dropOldest", desc := "()V" } : Jvm.MethodName)) ∈ WG := xWG (List.mem_of_getElem? (i := 438) rfl) (by decide +kernel)
set_option maxRecDepth 1000000 in
theorem wd_440 : (Jvm.Cond.instanceMethod ({ cls := "EchoLine$History", name := "dropOldest", desc := "()V" } : Jvm.MethodName)) ∈ WG := xWG (List.mem_of_getElem? (i := 440) rfl) (by decide +kernel)
set_option maxRecDepth 1000000 in
theorem wd_18 : (Jvm.Cond.selects "EchoLine$History" ({ cls := "EchoLine$History", name := "dropOldest", desc := "()V" } : Jvm.MethodName) ({ cls := "EchoLine$History", name := "dropOldest", desc := "()V" } : Jvm.MethodName)) ∈ WG := xWG (List.mem_of_getElem? (i := 18) rfl) (by decide +kernel)
set_option maxRecDepth 1000000 in
theorem wd_24 : (Jvm.Cond.initialized "EchoLine$History") ∈ WG := xWG (List.mem_of_getElem? (i := 24) rfl) (by decide +kernel)
set_option maxRecDepth 1000000 in
theorem wd_441 : (Jvm.Cond.code ({ cls := "EchoLine$History", name := "dropOldest", desc := "()V" } : Jvm.MethodName) prog_4_method_3_code (3 : Nat) (Option.none : Option Jvm.ClassFile.FieldType)) ∈ WG := xWG (List.mem_of_getElem? (i := 441) rfl) (by decide +kernel)
theorem ck_X2_21 : xCal RX2 21 RX2 yX2_dropOldest cX2_dropOldest 3 none 0 := ⟨⟨wd_438, wd_440, wd_18, wd_24, wd_441⟩, rfl, by decide +kernel, by decide +kernel, by decide +kernel⟩
set_option maxRecDepth 1000000 in
theorem wd_44 : (Jvm.Cond.instantiable "EchoLine$Chamber" (12 : Nat)) ∈ WG := xWG (List.mem_of_getElem? (i := 44) rfl) (by decide +kernel)
set_option maxRecDepth 1000000 in
theorem wd_46 : (Jvm.Cond.instanceMethod ({ cls := "EchoLine$Chamber", name := "<init>", desc := "()V" } : Jvm.MethodName)) ∈ WG := xWG (List.mem_of_getElem? (i := 46) rfl) (by decide +kernel)
set_option maxRecDepth 1000000 in
theorem wn_442 : (Jvm.Cond.methodLinkNest "EchoLine$History" (24 : Nat) ({ cls := "EchoLine$Chamber", name := "<init>", desc := "()V" } : Jvm.MethodName) "EchoLine") ∈ WN := xWN (List.mem_of_getElem? (i := 442) rfl) (by decide +kernel)
set_option maxRecDepth 1000000 in
theorem wd_47 : (Jvm.Cond.code ({ cls := "EchoLine$Chamber", name := "<init>", desc := "()V" } : Jvm.MethodName) prog_2_method_1_code (1 : Nat) (Option.none : Option Jvm.ClassFile.FieldType)) ∈ WG := xWG (List.mem_of_getElem? (i := 47) rfl) (by decide +kernel)
theorem ck_X2_24 : xCaN RX2 24 yX0_init "EchoLine" cX0_init 1 none (.instanceMethod yX0_init) 0 := ⟨⟨wn_442, wd_46, wd_22, wd_47⟩, by decide +kernel, by decide +kernel, by decide +kernel⟩
set_option maxRecDepth 1000000 in
theorem wd_443 : (Jvm.Cond.methodLink "EchoLine$History" (25 : Nat) ({ cls := "EchoLine$Chamber", name := "become", desc := "(LEchoLine$Chamber;)V" } : Jvm.MethodName)) ∈ WG := xWG (List.mem_of_getElem? (i := 443) rfl) (by decide +kernel)
set_option maxRecDepth 1000000 in
theorem wd_168 : (Jvm.Cond.instanceMethod ({ cls := "EchoLine$Chamber", name := "become", desc := "(LEchoLine$Chamber;)V" } : Jvm.MethodName)) ∈ WG := xWG (List.mem_of_getElem? (i := 168) rfl) (by decide +kernel)
set_option maxRecDepth 1000000 in
theorem wd_169 : (Jvm.Cond.selects "EchoLine$Chamber" ({ cls := "EchoLine$Chamber", name := "become", desc := "(LEchoLine$Chamber;)V" } : Jvm.MethodName) ({ cls := "EchoLine$Chamber", name := "become", desc := "(LEchoLine$Chamber;)V" } : Jvm.MethodName)) ∈ WG := xWG (List.mem_of_getElem? (i := 169) rfl) (by decide +kernel)
set_option maxRecDepth 1000000 in
theorem wd_170 : (Jvm.Cond.code ({ cls := "EchoLine$Chamber", name := "become", desc := "(LEchoLine$Chamber;)V" } : Jvm.MethodName) prog_2_method_2_code (3 : Nat) (Option.none : Option Jvm.ClassFile.FieldType)) ∈ WG := xWG (List.mem_of_getElem? (i := 170) rfl) (by decide +kernel)
theorem ck_X2_25 : xCal RX2 25 RX0 yX0_become cX0_become 3 none 1 := ⟨⟨wd_443, wd_168, wd_169, wd_22, wd_170⟩, rfl, by decide +kernel, by decide +kernel, by decide +kernel⟩
set_option maxRecDepth 1000000 in
theorem wd_111 : (Jvm.Cond.methodLink "EchoLine$Report" (3 : Nat) ({ cls := "java/lang/Object", name := "<init>", desc := "()V" } : Jvm.MethodName)) ∈ WG := xWG (List.mem_of_getElem? (i := 111) rfl) (by decide +kernel)
set_option maxRecDepth 1000000 in
theorem wd_112 : (Jvm.Cond.fieldLink "EchoLine$Report" (9 : Nat) "EchoLine$Report" "chamber" "LEchoLine$Chamber;") ∈ WG := xWG (List.mem_of_getElem? (i := 112) rfl) (by decide +kernel)
theorem fk_X3_9 : xFld RX3 9 3 1 0 2 := ⟨by decide, RX3, TX3, rfl, by decide, rfl, wd_112⟩
set_option maxRecDepth 1000000 in
theorem wd_64 : (Jvm.Cond.fieldLink "EchoLine$Report" (15 : Nat) "EchoLine$Chamber" "seatOf" "[I") ∈ WG := xWG (List.mem_of_getElem? (i := 64) rfl) (by decide +kernel)
theorem fk_X3_15 : xFld RX3 15 0 12 4 2 := ⟨by decide, RX0, TX0, rfl, by decide, rfl, wd_64⟩
set_option maxRecDepth 1000000 in
theorem wd_66 : (Jvm.Cond.fieldLink "EchoLine$Report" (21 : Nat) "EchoLine$Chamber" "wordOf" "[I") ∈ WG := xWG (List.mem_of_getElem? (i := 66) rfl) (by decide +kernel)
theorem fk_X3_21 : xFld RX3 21 0 12 5 2 := ⟨by decide, RX0, TX0, rfl, by decide, rfl, wd_66⟩
set_option maxRecDepth 1000000 in
theorem wd_68 : (Jvm.Cond.fieldLink "EchoLine$Report" (24 : Nat) "EchoLine$Chamber" "markOf" "[I") ∈ WG := xWG (List.mem_of_getElem? (i := 68) rfl) (by decide +kernel)
theorem fk_X3_24 : xFld RX3 24 0 12 6 2 := ⟨by decide, RX0, TX0, rfl, by decide, rfl, wd_68⟩
set_option maxRecDepth 1000000 in
theorem wd_70 : (Jvm.Cond.fieldLink "EchoLine$Report" (27 : Nat) "EchoLine$Chamber" "saidAt" "[I") ∈ WG := xWG (List.mem_of_getElem? (i := 70) rfl) (by decide +kernel)
theorem fk_X3_27 : xFld RX3 27 0 12 7 2 := ⟨by decide, RX0, TX0, rfl, by decide, rfl, wd_70⟩
set_option maxRecDepth 1000000 in
theorem wd_72 : (Jvm.Cond.fieldLink "EchoLine$Report" (30 : Nat) "EchoLine$Chamber" "comesAt" "[[I") ∈ WG := xWG (List.mem_of_getElem? (i := 72) rfl) (by decide +kernel)
theorem fk_X3_30 : xFld RX3 30 0 12 8 2 := ⟨by decide, RX0, TX0, rfl, by decide, rfl, wd_72⟩
set_option maxRecDepth 1000000 in
theorem wd_235 : (Jvm.Cond.methodLink "EchoLine$Report" (34 : Nat) ({ cls := "EchoLine$Report", name := "maskOf", desc := "([[II)I" } : Jvm.MethodName)) ∈ WG := xWG (List.mem_of_getElem? (i := 235) rfl) (by decide +kernel)
set_option maxRecDepth 1000000 in
theorem wd_237 : (Jvm.Cond.instanceMethod ({ cls := "EchoLine$Report", name := "maskOf", desc := "([[II)I" } : Jvm.MethodName)) ∈ WG := xWG (List.mem_of_getElem? (i := 237) rfl) (by decide +kernel)
set_option maxRecDepth 1000000 in
theorem wd_3 : (Jvm.Cond.selects "EchoLine$Report" ({ cls := "EchoLine$Report", name := "maskOf", desc := "([[II)I" } : Jvm.MethodName) ({ cls := "EchoLine$Report", name := "maskOf", desc := "([[II)I" } : Jvm.MethodName)) ∈ WG := xWG (List.mem_of_getElem? (i := 3) rfl) (by decide +kernel)
set_option maxRecDepth 1000000 in
theorem wd_23 : (Jvm.Cond.initialized "EchoLine$Report") ∈ WG := xWG (List.mem_of_getElem? (i := 23) rfl) (by decide +kernel)
set_option maxRecDepth 1000000 in
theorem wd_238 : (Jvm.Cond.code ({ cls := "EchoLine$Report", name := "maskOf", desc := "([[II)I" } : Jvm.MethodName) prog_5_method_3_code (5 : Nat) (Option.some Jvm.ClassFile.FieldType.int)) ∈ WG := xWG (List.mem_of_getElem? (i := 238) rfl) (by decide +kernel)
theorem ck_X3_34 : xCal RX3 34 RX3 yX3_maskOf cX3_maskOf 5 (some .int) 2 := ⟨⟨wd_235, wd_237, wd_3, wd_23, wd_238⟩, rfl, by decide +kernel, by decide +kernel, by decide +kernel⟩
set_option maxRecDepth 1000000 in
theorem wd_75 : (Jvm.Cond.fieldLink "EchoLine$Report" (38 : Nat) "EchoLine$Chamber" "firstHeardAt" "[[I") ∈ WG := xWG (List.mem_of_getElem? (i := 75) rfl) (by decide +kernel)
theorem fk_X3_38 : xFld RX3 38 0 12 9 2 := ⟨by decide, RX0, TX0, rfl, by decide, rfl, wd_75⟩
set_option maxRecDepth 1000000 in
theorem wd_77 : (Jvm.Cond.fieldLink "EchoLine$Report" (41 : Nat) "EchoLine$Chamber" "heardNumber" "[[I") ∈ WG := xWG (List.mem_of_getElem? (i := 77) rfl) (by decide +kernel)
theorem fk_X3_41 : xFld RX3 41 0 12 10 2 := ⟨by decide, RX0, TX0, rfl, by decide, rfl, wd_77⟩
set_option maxRecDepth 1000000 in
theorem wd_279 : (Jvm.Cond.methodLink "EchoLine$Report" (44 : Nat) ({ cls := "EchoLine$Report", name := "isRepeated", desc := "(II)Z" } : Jvm.MethodName)) ∈ WG := xWG (List.mem_of_getElem? (i := 279) rfl) (by decide +kernel)
set_option maxRecDepth 1000000 in
theorem wd_281 : (Jvm.Cond.instanceMethod ({ cls := "EchoLine$Report", name := "isRepeated", desc := "(II)Z" } : Jvm.MethodName)) ∈ WG := xWG (List.mem_of_getElem? (i := 281) rfl) (by decide +kernel)
set_option maxRecDepth 1000000 in
theorem wd_10 : (Jvm.Cond.selects "EchoLine$Report" ({ cls := "EchoLine$Report", name := "isRepeated", desc := "(II)Z" } : Jvm.MethodName) ({ cls := "EchoLine$Report", name := "isRepeated", desc := "(II)Z" } : Jvm.MethodName)) ∈ WG := xWG (List.mem_of_getElem? (i := 10) rfl) (by decide +kernel)
set_option maxRecDepth 1000000 in
theorem wd_282 : (Jvm.Cond.code ({ cls := "EchoLine$Report", name := "isRepeated", desc := "(II)Z" } : Jvm.MethodName) prog_5_method_5_code (4 : Nat) (Option.some Jvm.ClassFile.FieldType.boolean)) ∈ WG := xWG (List.mem_of_getElem? (i := 282) rfl) (by decide +kernel)
theorem ck_X3_44 : xCal RX3 44 RX3 yX3_isRepeated cX3_isRepeated 4 (some .boolean) 2 := ⟨⟨wd_279, wd_281, wd_10, wd_23, wd_282⟩, rfl, by decide +kernel, by decide +kernel, by decide +kernel⟩
set_option maxRecDepth 1000000 in
theorem wd_59 : (Jvm.Cond.fieldLink "EchoLine$Report" (48 : Nat) "EchoLine$Chamber" "walls" "[I") ∈ WG := xWG (List.mem_of_getElem? (i := 59) rfl) (by decide +kernel)
theorem fk_X3_48 : xFld RX3 48 0 12 2 2 := ⟨by decide, RX0, TX0, rfl, by decide, rfl, wd_59⟩
set_option maxRecDepth 1000000 in
theorem wd_203 : (Jvm.Cond.methodLink "EchoLine$Report" (51 : Nat) ({ cls := "EchoLine$Report", name := "heardBeats", desc := "(I)I" } : Jvm.MethodName)) ∈ WG := xWG (List.mem_of_getElem? (i := 203) rfl) (by decide +kernel)
set_option maxRecDepth 1000000 in
theorem wd_205 : (Jvm.Cond.instanceMethod ({ cls := "EchoLine$Report", name := "heardBeats", desc := "(I)I" } : Jvm.MethodName)) ∈ WG := xWG (List.mem_of_getElem? (i := 205) rfl) (by decide +kernel)
set_option maxRecDepth 1000000 in
theorem wd_0 : (Jvm.Cond.selects "EchoLine$Report" ({ cls := "EchoLine$Report", name := "heardBeats", desc := "(I)I" } : Jvm.MethodName) ({ cls := "EchoLine$Report", name := "heardBeats", desc := "(I)I" } : Jvm.MethodName)) ∈ WG := xWG (List.mem_of_getElem? (i := 0) rfl) (by decide +kernel)
set_option maxRecDepth 1000000 in
theorem wd_206 : (Jvm.Cond.code ({ cls := "EchoLine$Report", name := "heardBeats", desc := "(I)I" } : Jvm.MethodName) prog_5_method_7_code (4 : Nat) (Option.some Jvm.ClassFile.FieldType.int)) ∈ WG := xWG (List.mem_of_getElem? (i := 206) rfl) (by decide +kernel)
theorem ck_X3_51 : xCal RX3 51 RX3 yX3_heardBeats cX3_heardBeats 4 (some .int) 1 := ⟨⟨wd_203, wd_205, wd_0, wd_23, wd_206⟩, rfl, by decide +kernel, by decide +kernel, by decide +kernel⟩
set_option maxRecDepth 1000000 in
theorem wd_271 : (Jvm.Cond.methodLink "EchoLine$Report" (55 : Nat) ({ cls := "EchoLine$Report", name := "heardWordsByBeats", desc := "(I)I" } : Jvm.MethodName)) ∈ WG := xWG (List.mem_of_getElem? (i := 271) rfl) (by decide +kernel)
set_option maxRecDepth 1000000 in
theorem wd_273 : (Jvm.Cond.instanceMethod ({ cls := "EchoLine$Report", name := "heardWordsByBeats", desc := "(I)I" } : Jvm.MethodName)) ∈ WG := xWG (List.mem_of_getElem? (i := 273) rfl) (by decide +kernel)
set_option maxRecDepth 1000000 in
theorem wd_8 : (Jvm.Cond.selects "EchoLine$Report" ({ cls := "EchoLine$Report", name := "heardWordsByBeats", desc := "(I)I" } : Jvm.MethodName) ({ cls := "EchoLine$Report", name := "heardWordsByBeats", desc := "(I)I" } : Jvm.MethodName)) ∈ WG := xWG (List.mem_of_getElem? (i := 8) rfl) (by decide +kernel)
set_option maxRecDepth 1000000 in
theorem wd_274 : (Jvm.Cond.code ({ cls := "EchoLine$Report", name := "heardWordsByBeats", desc := "(I)I" } : Jvm.MethodName) prog_5_method_8_code (5 : Nat) (Option.some Jvm.ClassFile.FieldType.int)) ∈ WG := xWG (List.mem_of_getElem? (i := 274) rfl) (by decide +kernel)
theorem ck_X3_55 : xCal RX3 55 RX3 yX3_heardWordsByBeats cX3_heardWordsByBeats 5 (some .int) 1 := ⟨⟨wd_271, wd_273, wd_8, wd_23, wd_274⟩, rfl, by decide +kernel, by decide +kernel, by decide +kernel⟩
set_option maxRecDepth 1000000 in
theorem wd_275 : (Jvm.Cond.methodLink "EchoLine$Report" (58 : Nat) ({ cls := "EchoLine$Report", name := "repeatedBeats", desc := "(I)I" } : Jvm.MethodName)) ∈ WG := xWG (List.mem_of_getElem? (i := 275) rfl) (by decide +kernel)
set_option maxRecDepth 1000000 in
theorem wd_277 : (Jvm.Cond.instanceMethod ({ cls := "EchoLine$Report", name := "repeatedBeats", desc := "(I)I" } : Jvm.MethodName)) ∈ WG := xWG (List.mem_of_getElem? (i := 277) rfl) (by decide +kernel)
set_option maxRecDepth 1000000 in
theorem wd_9 : (Jvm.Cond.selects "EchoLine$Report" ({ cls := "EchoLine$Report", name := "repeatedBeats", desc := "(I)I" } : Jvm.MethodName) ({ cls := "EchoLine$Report", name := "repeatedBeats", desc := "(I)I" } : Jvm.MethodName)) ∈ WG := xWG (List.mem_of_getElem? (i := 9) rfl) (by decide +kernel)
set_option maxRecDepth 1000000 in
theorem wd_278 : (Jvm.Cond.code ({ cls := "EchoLine$Report", name := "repeatedBeats", desc := "(I)I" } : Jvm.MethodName) prog_5_method_10_code (4 : Nat) (Option.some Jvm.ClassFile.FieldType.int)) ∈ WG := xWG (List.mem_of_getElem? (i := 278) rfl) (by decide +kernel)
theorem ck_X3_58 : xCal RX3 58 RX3 yX3_repeatedBeats cX3_repeatedBeats 4 (some .int) 1 := ⟨⟨wd_275, wd_277, wd_9, wd_23, wd_278⟩, rfl, by decide +kernel, by decide +kernel, by decide +kernel⟩
set_option maxRecDepth 1000000 in
theorem wd_53 : (Jvm.Cond.fieldLink "EchoLine$Report" (61 : Nat) "EchoLine$Chamber" "beat" "I") ∈ WG := xWG (List.mem_of_getElem? (i := 53) rfl) (by decide +kernel)
theorem fk_X3_61 : xFld RX3 61 0 12 0 0 := ⟨by decide, RX0, TX0, rfl, by decide, rfl, wd_53⟩
set_option maxRecDepth 1000000 in
theorem wd_283 : (Jvm.Cond.methodLink "EchoLine$Report" (65 : Nat) ({ cls := "EchoLine$Report", name := "gaps", desc := "(I)I" } : Jvm.MethodName)) ∈ WG := xWG (List.mem_of_getElem? (i := 283) rfl) (by decide +kernel)
set_option maxRecDepth 1000000 in
theorem wd_285 : (Jvm.Cond.instanceMethod ({ cls := "EchoLine$Report", name := "gaps", desc := "(I)I" } : Jvm.MethodName)) ∈ WG := xWG (List.mem_of_getElem? (i := 285) rfl) (by decide +kernel)
set_option maxRecDepth 1000000 in
theorem wd_11 : (Jvm.Cond.selects "EchoLine$Report" ({ cls := "EchoLine$Report", name := "gaps", desc := "(I)I" } : Jvm.MethodName) ({ cls := "EchoLine$Report", name := "gaps", desc := "(I)I" } : Jvm.MethodName)) ∈ WG := xWG (List.mem_of_getElem? (i := 11) rfl) (by decide +kernel)
set_option maxRecDepth 1000000 in
theorem wd_286 : (Jvm.Cond.code ({ cls := "EchoLine$Report", name := "gaps", desc := "(I)I" } : Jvm.MethodName) prog_5_method_11_code (6 : Nat) (Option.some Jvm.ClassFile.FieldType.int)) ∈ WG := xWG (List.mem_of_getElem? (i := 286) rfl) (by decide +kernel)
theorem ck_X3_65 : xCal RX3 65 RX3 yX3_gaps cX3_gaps 6 (some .int) 1 := ⟨⟨wd_283, wd_285, wd_11, wd_23, wd_286⟩, rfl, by decide +kernel, by decide +kernel, by decide +kernel⟩
set_option maxRecDepth 1000000 in
theorem wd_287 : (Jvm.Cond.methodLink "EchoLine$Report" (68 : Nat) ({ cls := "EchoLine$Report", name := "wordsSaidBy", desc := "(I)I" } : Jvm.MethodName)) ∈ WG := xWG (List.mem_of_getElem? (i := 287) rfl) (by decide +kernel)
set_option maxRecDepth 1000000 in
theorem wd_289 : (Jvm.Cond.instanceMethod ({ cls := "EchoLine$Report", name := "wordsSaidBy", desc := "(I)I" } : Jvm.MethodName)) ∈ WG := xWG (List.mem_of_getElem? (i := 289) rfl) (by decide +kernel)
set_option maxRecDepth 1000000 in
theorem wd_12 : (Jvm.Cond.selects "EchoLine$Report" ({ cls := "EchoLine$Report", name := "wordsSaidBy", desc := "(I)I" } : Jvm.MethodName) ({ cls := "EchoLine$Report", name := "wordsSaidBy", desc := "(I)I" } : Jvm.MethodName)) ∈ WG := xWG (List.mem_of_getElem? (i := 12) rfl) (by decide +kernel)
set_option maxRecDepth 1000000 in
theorem wd_290 : (Jvm.Cond.code ({ cls := "EchoLine$Report", name := "wordsSaidBy", desc := "(I)I" } : Jvm.MethodName) prog_5_method_12_code (4 : Nat) (Option.some Jvm.ClassFile.FieldType.int)) ∈ WG := xWG (List.mem_of_getElem? (i := 290) rfl) (by decide +kernel)
theorem ck_X3_68 : xCal RX3 68 RX3 yX3_wordsSaidBy cX3_wordsSaidBy 4 (some .int) 1 := ⟨⟨wd_287, wd_289, wd_12, wd_23, wd_290⟩, rfl, by decide +kernel, by decide +kernel, by decide +kernel⟩
set_option maxRecDepth 1000000 in
theorem wd_291 : (Jvm.Cond.methodLink "EchoLine$Report" (71 : Nat) ({ cls := "EchoLine$Report", name := "heardWordsByWords", desc := "(I)I" } : Jvm.MethodName)) ∈ WG := xWG (List.mem_of_getElem? (i := 291) rfl) (by decide +kernel)
set_option maxRecDepth 1000000 in
theorem wd_293 : (Jvm.Cond.instanceMethod ({ cls := "EchoLine$Report", name := "heardWordsByWords", desc := "(I)I" } : Jvm.MethodName)) ∈ WG := xWG (List.mem_of_getElem? (i := 293) rfl) (by decide +kernel)
set_option maxRecDepth 1000000 in
theorem wd_13 : (Jvm.Cond.selects "EchoLine$Report" ({ cls := "EchoLine$Report", name := "heardWordsByWords", desc := "(I)I" } : Jvm.MethodName) ({ cls := "EchoLine$Report", name := "heardWordsByWords", desc := "(I)I" } : Jvm.MethodName)) ∈ WG := xWG (List.mem_of_getElem? (i := 13) rfl) (by decide +kernel)
set_option maxRecDepth 1000000 in
theorem wd_294 : (Jvm.Cond.code ({ cls := "EchoLine$Report", name := "heardWordsByWords", desc := "(I)I" } : Jvm.MethodName) prog_5_method_9_code (4 : Nat) (Option.some Jvm.ClassFile.FieldType.int)) ∈ WG := xWG (List.mem_of_getElem? (i := 294) rfl) (by decide +kernel)
theorem ck_X3_71 : xCal RX3 71 RX3 yX3_heardWordsByWords cX3_heardWordsByWords 4 (some .int) 1 := ⟨⟨wd_291, wd_293, wd_13, wd_23, wd_294⟩, rfl, by decide +kernel, by decide +kernel, by decide +kernel⟩
set_option maxRecDepth 1000000 in
theorem wd_55 : (Jvm.Cond.fieldLink "EchoLine$Report" (74 : Nat) "EchoLine$Chamber" "words" "I") ∈ WG := xWG (List.mem_of_getElem? (i := 55) rfl) (by decide +kernel)
theorem fk_X3_74 : xFld RX3 74 0 12 1 0 := ⟨by decide, RX0, TX0, rfl, by decide, rfl, wd_55⟩
set_option maxRecDepth 1000000 in
theorem wd_79 : (Jvm.Cond.fieldLink "EchoLine$Report" (77 : Nat) "EchoLine$Chamber" "messageWords" "[I") ∈ WG := xWG (List.mem_of_getElem? (i := 79) rfl) (by decide +kernel)
theorem fk_X3_77 : xFld RX3 77 0 12 11 2 := ⟨by decide, RX0, TX0, rfl, by decide, rfl, wd_79⟩
set_option maxRecDepth 1000000 in
theorem wd_255 : (Jvm.Cond.methodLink "EchoLine$Report" (80 : Nat) ({ cls := "EchoLine$Chamber", name := "messagePlace", desc := "(II)I" } : Jvm.MethodName)) ∈ WG := xWG (List.mem_of_getElem? (i := 255) rfl) (by decide +kernel)
theorem ck_X3_80 : xCaS RX3 80 yX0_messagePlace cX0_messagePlace 2 (some .int) 2 := ⟨⟨wd_255, wd_256, wd_22, wd_257⟩, by decide +kernel, by decide +kernel, by decide +kernel⟩
set_option maxRecDepth 1000000 in
theorem wd_231 : (Jvm.Cond.methodLink "EchoLine$Report" (84 : Nat) ({ cls := "EchoLine$Report", name := "wordsHeardByMask", desc := "(I)I" } : Jvm.MethodName)) ∈ WG := xWG (List.mem_of_getElem? (i := 231) rfl) (by decide +kernel)
set_option maxRecDepth 1000000 in
theorem wd_233 : (Jvm.Cond.instanceMethod ({ cls := "EchoLine$Report", name := "wordsHeardByMask", desc := "(I)I" } : Jvm.MethodName)) ∈ WG := xWG (List.mem_of_getElem? (i := 233) rfl) (by decide +kernel)
set_option maxRecDepth 1000000 in
theorem wd_2 : (Jvm.Cond.selects "EchoLine$Report" ({ cls := "EchoLine$Report", name := "wordsHeardByMask", desc := "(I)I" } : Jvm.MethodName) ({ cls := "EchoLine$Report", name := "wordsHeardByMask", desc := "(I)I" } : Jvm.MethodName)) ∈ WG := xWG (List.mem_of_getElem? (i := 2) rfl) (by decide +kernel)
set_option maxRecDepth 1000000 in
theorem wd_234 : (Jvm.Cond.code ({ cls := "EchoLine$Report", name := "wordsHeardByMask", desc := "(I)I" } : Jvm.MethodName) prog_5_method_15_code (4 : Nat) (Option.some Jvm.ClassFile.FieldType.int)) ∈ WG := xWG (List.mem_of_getElem? (i := 234) rfl) (by decide +kernel)
theorem ck_X3_84 : xCal RX3 84 RX3 yX3_wordsHeardByMask cX3_wordsHeardByMask 4 (some .int) 1 := ⟨⟨wd_231, wd_233, wd_2, wd_23, wd_234⟩, rfl, by decide +kernel, by decide +kernel, by decide +kernel⟩
set_option maxRecDepth 1000000 in
theorem wd_239 : (Jvm.Cond.methodLink "EchoLine$Report" (87 : Nat) ({ cls := "EchoLine$Report", name := "messages", desc := "()I" } : Jvm.MethodName)) ∈ WG := xWG (List.mem_of_getElem? (i := 239) rfl) (by decide +kernel)
set_option maxRecDepth 1000000 in
theorem wd_241 : (Jvm.Cond.instanceMethod ({ cls := "EchoLine$Report", name := "messages", desc := "()I" } : Jvm.MethodName)) ∈ WG := xWG (List.mem_of_getElem? (i := 241) rfl) (by decide +kernel)
set_option maxRecDepth 1000000 in
theorem wd_4 : (Jvm.Cond.selects "EchoLine$Report" ({ cls := "EchoLine$Report", name := "messages", desc := "()I" } : Jvm.MethodName) ({ cls := "EchoLine$Report", name := "messages", desc := "()I" } : Jvm.MethodName)) ∈ WG := xWG (List.mem_of_getElem? (i := 4) rfl) (by decide +kernel)
set_option maxRecDepth 1000000 in
theorem wd_242 : (Jvm.Cond.code ({ cls := "EchoLine$Report", name := "messages", desc := "()I" } : Jvm.MethodName) prog_5_method_16_code (3 : Nat) (Option.some Jvm.ClassFile.FieldType.int)) ∈ WG := xWG (List.mem_of_getElem? (i := 242) rfl) (by decide +kernel)
theorem ck_X3_87 : xCal RX3 87 RX3 yX3_messages cX3_messages 3 (some .int) 0 := ⟨⟨wd_239, wd_241, wd_4, wd_23, wd_242⟩, rfl, by decide +kernel, by decide +kernel, by decide +kernel⟩
set_option maxRecDepth 1000000 in
theorem wd_243 : (Jvm.Cond.methodLink "EchoLine$Report" (91 : Nat) ({ cls := "EchoLine$Report", name := "messagesHeardWhole", desc := "()I" } : Jvm.MethodName)) ∈ WG := xWG (List.mem_of_getElem? (i := 243) rfl) (by decide +kernel)
set_option maxRecDepth 1000000 in
theorem wd_245 : (Jvm.Cond.instanceMethod ({ cls := "EchoLine$Report", name := "messagesHeardWhole", desc := "()I" } : Jvm.MethodName)) ∈ WG := xWG (List.mem_of_getElem? (i := 245) rfl) (by decide +kernel)
set_option maxRecDepth 1000000 in
theorem wd_5 : (Jvm.Cond.selects "EchoLine$Report" ({ cls := "EchoLine$Report", name := "messagesHeardWhole", desc := "()I" } : Jvm.MethodName) ({ cls := "EchoLine$Report", name := "messagesHeardWhole", desc := "()I" } : Jvm.MethodName)) ∈ WG := xWG (List.mem_of_getElem? (i := 5) rfl) (by decide +kernel)
set_option maxRecDepth 1000000 in
theorem wd_246 : (Jvm.Cond.code ({ cls := "EchoLine$Report", name := "messagesHeardWhole", desc := "()I" } : Jvm.MethodName) prog_5_method_17_code (4 : Nat) (Option.some Jvm.ClassFile.FieldType.int)) ∈ WG := xWG (List.mem_of_getElem? (i := 246) rfl) (by decide +kernel)
theorem ck_X3_91 : xCal RX3 91 RX3 yX3_messagesHeardWhole cX3_messagesHeardWhole 4 (some .int) 0 := ⟨⟨wd_243, wd_245, wd_5, wd_23, wd_246⟩, rfl, by decide +kernel, by decide +kernel, by decide +kernel⟩
set_option maxRecDepth 1000000 in
theorem wd_62 : (Jvm.Cond.fieldLink "EchoLine$Report" (94 : Nat) "EchoLine$Chamber" "settings" "[I") ∈ WG := xWG (List.mem_of_getElem? (i := 62) rfl) (by decide +kernel)
theorem fk_X3_94 : xFld RX3 94 0 12 3 2 := ⟨by decide, RX0, TX0, rfl, by decide, rfl, wd_62⟩
set_option maxRecDepth 1000000 in
theorem wd_247 : (Jvm.Cond.methodLink "EchoLine$Report" (97 : Nat) ({ cls := "EchoLine$Report", name := "allHeardWhole", desc := "(II)Z" } : Jvm.MethodName)) ∈ WG := xWG (List.mem_of_getElem? (i := 247) rfl) (by decide +kernel)
set_option maxRecDepth 1000000 in
theorem wd_249 : (Jvm.Cond.instanceMethod ({ cls := "EchoLine$Report", name := "allHeardWhole", desc := "(II)Z" } : Jvm.MethodName)) ∈ WG := xWG (List.mem_of_getElem? (i := 249) rfl) (by decide +kernel)
set_option maxRecDepth 1000000 in
theorem wd_6 : (Jvm.Cond.selects "EchoLine$Report" ({ cls := "EchoLine$Report", name := "allHeardWhole", desc := "(II)Z" } : Jvm.MethodName) ({ cls := "EchoLine$Report", name := "allHeardWhole", desc := "(II)Z" } : Jvm.MethodName)) ∈ WG := xWG (List.mem_of_getElem? (i := 6) rfl) (by decide +kernel)
set_option maxRecDepth 1000000 in
theorem wd_250 : (Jvm.Cond.code ({ cls := "EchoLine$Report", name := "allHeardWhole", desc := "(II)Z" } : Jvm.MethodName) prog_5_method_18_code (4 : Nat) (Option.some Jvm.ClassFile.FieldType.boolean)) ∈ WG := xWG (List.mem_of_getElem? (i := 250) rfl) (by decide +kernel)
theorem ck_X3_97 : xCal RX3 97 RX3 yX3_allHeardWhole cX3_allHeardWhole 4 (some .boolean) 2 := ⟨⟨wd_247, wd_249, wd_6, wd_23, wd_250⟩, rfl, by decide +kernel, by decide +kernel, by decide +kernel⟩
set_option maxRecDepth 1000000 in
theorem wd_251 : (Jvm.Cond.methodLink "EchoLine$Report" (100 : Nat) ({ cls := "EchoLine$Report", name := "hearingOf", desc := "(III)I" } : Jvm.MethodName)) ∈ WG := xWG (List.mem_of_getElem? (i := 251) rfl) (by decide +kernel)
set_option maxRecDepth 1000000 in
theorem wd_252 : (Jvm.Cond.instanceMethod ({ cls := "EchoLine$Report", name := "hearingOf", desc := "(III)I" } : Jvm.MethodName)) ∈ WG := xWG (List.mem_of_getElem? (i := 252) rfl) (by decide +kernel)
set_option maxRecDepth 1000000 in
theorem wd_253 : (Jvm.Cond.selects "EchoLine$Report" ({ cls := "EchoLine$Report", name := "hearingOf", desc := "(III)I" } : Jvm.MethodName) ({ cls := "EchoLine$Report", name := "hearingOf", desc := "(III)I" } : Jvm.MethodName)) ∈ WG := xWG (List.mem_of_getElem? (i := 253) rfl) (by decide +kernel)
set_option maxRecDepth 1000000 in
theorem wd_254 : (Jvm.Cond.code ({ cls := "EchoLine$Report", name := "hearingOf", desc := "(III)I" } : Jvm.MethodName) prog_5_method_13_code (11 : Nat) (Option.some Jvm.ClassFile.FieldType.int)) ∈ WG := xWG (List.mem_of_getElem? (i := 254) rfl) (by decide +kernel)
theorem ck_X3_100 : xCal RX3 100 RX3 yX3_hearingOf cX3_hearingOf 11 (some .int) 3 := ⟨⟨wd_251, wd_252, wd_253, wd_23, wd_254⟩, rfl, by decide +kernel, by decide +kernel, by decide +kernel⟩
set_option maxRecDepth 1000000 in
theorem wd_329 : (Jvm.Cond.methodLink "EchoLine$Report" (104 : Nat) ({ cls := "EchoLine$Chamber", name := "secondLast", desc := "(II)I" } : Jvm.MethodName)) ∈ WG := xWG (List.mem_of_getElem? (i := 329) rfl) (by decide +kernel)
theorem ck_X3_104 : xCal RX3 104 RX0 yX0_secondLast cX0_secondLast 9 (some .int) 2 := ⟨⟨wd_329, wd_296, wd_297, wd_22, wd_298⟩, rfl, by decide +kernel, by decide +kernel, by decide +kernel⟩
set_option maxRecDepth 1000000 in
theorem wd_182 : (Jvm.Cond.methodLink "EchoLine$Report" (107 : Nat) ({ cls := "EchoLine$Chamber", name := "delayBetween", desc := "(II)I" } : Jvm.MethodName)) ∈ WG := xWG (List.mem_of_getElem? (i := 182) rfl) (by decide +kernel)
theorem ck_X3_107 : xCal RX3 107 RX0 yX0_delayBetween cX0_delayBetween 6 (some .int) 2 := ⟨⟨wd_182, wd_183, wd_184, wd_22, wd_185⟩, rfl, by decide +kernel, by decide +kernel, by decide +kernel⟩
set_option maxRecDepth 1000000 in
theorem wd_192 : (Jvm.Cond.methodLink "EchoLine$Report" (110 : Nat) ({ cls := "java/lang/Math", name := "max", desc := "(II)I" } : Jvm.MethodName)) ∈ WG := xWG (List.mem_of_getElem? (i := 192) rfl) (by decide +kernel)
set_option maxRecDepth 1000000 in
theorem wd_193 : (Jvm.Cond.static ({ cls := "java/lang/Math", name := "max", desc := "(II)I" } : Jvm.MethodName)) ∈ WG := xWG (List.mem_of_getElem? (i := 193) rfl) (by decide +kernel)
set_option maxRecDepth 1000000 in
theorem wd_194 : (Jvm.Cond.code ({ cls := "java/lang/Math", name := "max", desc := "(II)I" } : Jvm.MethodName) prog_13_method_65_code (2 : Nat) (Option.some Jvm.ClassFile.FieldType.int)) ∈ WG := xWG (List.mem_of_getElem? (i := 194) rfl) (by decide +kernel)
set_option maxRecDepth 1000000 in
theorem wd_137 : (Jvm.Cond.methodLink "EchoLine$Text" (3 : Nat) ({ cls := "java/lang/Object", name := "<init>", desc := "()V" } : Jvm.MethodName)) ∈ WG := xWG (List.mem_of_getElem? (i := 137) rfl) (by decide +kernel)
set_option maxRecDepth 1000000 in
theorem wd_146 : (Jvm.Cond.arrayClass Jvm.ClassFile.FieldType.char) ∈ WG := xWG (List.mem_of_getElem? (i := 146) rfl) (by decide +kernel)
set_option maxRecDepth 1000000 in
theorem wd_139 : (Jvm.Cond.fieldLink "EchoLine$Text" (9 : Nat) "EchoLine$Text" "signs" "[C") ∈ WG := xWG (List.mem_of_getElem? (i := 139) rfl) (by decide +kernel)
theorem fk_X4_9 : xFld RX4 9 4 2 1 2 := ⟨by decide, RX4, TX4, rfl, by decide, rfl, wd_139⟩
set_option maxRecDepth 1000000 in
theorem wd_40 : (Jvm.Cond.methodLink "EchoLine" (1 : Nat) ({ cls := "java/lang/Object", name := "<init>", desc := "()V" } : Jvm.MethodName)) ∈ WG := xWG (List.mem_of_getElem? (i := 40) rfl) (by decide +kernel)
set_option maxRecDepth 1000000 in
theorem wd_43 : (Jvm.Cond.classLink "EchoLine" (7 : Nat) "EchoLine$Chamber") ∈ WG := xWG (List.mem_of_getElem? (i := 43) rfl) (by decide +kernel)
set_option maxRecDepth 1000000 in
theorem wn_45 : (Jvm.Cond.methodLinkNest "EchoLine" (9 : Nat) ({ cls := "EchoLine$Chamber", name := "<init>", desc := "()V" } : Jvm.MethodName) "EchoLine") ∈ WN := xWN (List.mem_of_getElem? (i := 45) rfl) (by decide +kernel)
theorem ck_X5_9 : xCaN RX5 9 yX0_init "EchoLine" cX0_init 1 none (.instanceMethod yX0_init) 0 := ⟨⟨wn_45, wd_46, wd_22, wd_47⟩, by decide +kernel, by decide +kernel, by decide +kernel⟩
set_option maxRecDepth 1000000 in
theorem wd_147 : (Jvm.Cond.fieldLink "EchoLine" (10 : Nat) "EchoLine" "now" "LEchoLine$Chamber;") ∈ WG := xWG (List.mem_of_getElem? (i := 147) rfl) (by decide +kernel)
theorem fk_X5_10 : xFld RX5 10 5 5 0 2 := ⟨by decide, RX5, TX5, rfl, by decide, rfl, wd_147⟩
set_option maxRecDepth 1000000 in
theorem wd_106 : (Jvm.Cond.classLink "EchoLine" (16 : Nat) "EchoLine$Report") ∈ WG := xWG (List.mem_of_getElem? (i := 106) rfl) (by decide +kernel)
set_option maxRecDepth 1000000 in
theorem wd_107 : (Jvm.Cond.instantiable "EchoLine$Report" (1 : Nat)) ∈ WG := xWG (List.mem_of_getElem? (i := 107) rfl) (by decide +kernel)
set_option maxRecDepth 1000000 in
theorem wd_108 : (Jvm.Cond.methodLink "EchoLine" (18 : Nat) ({ cls := "EchoLine$Report", name := "<init>", desc := "(LEchoLine$Chamber;)V" } : Jvm.MethodName)) ∈ WG := xWG (List.mem_of_getElem? (i := 108) rfl) (by decide +kernel)
set_option maxRecDepth 1000000 in
theorem wd_109 : (Jvm.Cond.instanceMethod ({ cls := "EchoLine$Report", name := "<init>", desc := "(LEchoLine$Chamber;)V" } : Jvm.MethodName)) ∈ WG := xWG (List.mem_of_getElem? (i := 109) rfl) (by decide +kernel)
set_option maxRecDepth 1000000 in
theorem wd_110 : (Jvm.Cond.code ({ cls := "EchoLine$Report", name := "<init>", desc := "(LEchoLine$Chamber;)V" } : Jvm.MethodName) prog_5_method_1_code (2 : Nat) (Option.none : Option Jvm.ClassFile.FieldType)) ∈ WG := xWG (List.mem_of_getElem? (i := 110) rfl) (by decide +kernel)
theorem ck_X5_18 : xCaI RX5 18 yX3_init cX3_init 2 1 := ⟨⟨wd_108, wd_109, wd_23, wd_110⟩, rfl, by decide +kernel, by decide +kernel, by decide +kernel⟩
set_option maxRecDepth 1000000 in
theorem wd_148 : (Jvm.Cond.fieldLink "EchoLine" (21 : Nat) "EchoLine" "report" "LEchoLine$Report;") ∈ WG := xWG (List.mem_of_getElem? (i := 148) rfl) (by decide +kernel)
theorem fk_X5_21 : xFld RX5 21 5 5 1 2 := ⟨by decide, RX5, TX5, rfl, by decide, rfl, wd_148⟩
set_option maxRecDepth 1000000 in
theorem wd_116 : (Jvm.Cond.classLink "EchoLine" (25 : Nat) "EchoLine$History") ∈ WG := xWG (List.mem_of_getElem? (i := 116) rfl) (by decide +kernel)
set_option maxRecDepth 1000000 in
theorem wd_117 : (Jvm.Cond.instantiable "EchoLine$History" (2 : Nat)) ∈ WG := xWG (List.mem_of_getElem? (i := 117) rfl) (by decide +kernel)
set_option maxRecDepth 1000000 in
theorem wd_119 : (Jvm.Cond.instanceMethod ({ cls := "EchoLine$History", name := "<init>", desc := "()V" } : Jvm.MethodName)) ∈ WG := xWG (List.mem_of_getElem? (i := 119) rfl) (by decide +kernel)
set_option maxRecDepth 1000000 in
theorem wn_118 : (Jvm.Cond.methodLinkNest "EchoLine" (27 : Nat) ({ cls := "EchoLine$History", name := "<init>", desc := "()V" } : Jvm.MethodName) "EchoLine") ∈ WN := xWN (List.mem_of_getElem? (i := 118) rfl) (by decide +kernel)
set_option maxRecDepth 1000000 in
theorem wd_120 : (Jvm.Cond.code ({ cls := "EchoLine$History", name := "<init>", desc := "()V" } : Jvm.MethodName) prog_4_method_1_code (1 : Nat) (Option.none : Option Jvm.ClassFile.FieldType)) ∈ WG := xWG (List.mem_of_getElem? (i := 120) rfl) (by decide +kernel)
theorem ck_X5_27 : xCaN RX5 27 yX2_init "EchoLine" cX2_init 1 none (.instanceMethod yX2_init) 0 := ⟨⟨wn_118, wd_119, wd_24, wd_120⟩, by decide +kernel, by decide +kernel, by decide +kernel⟩
set_option maxRecDepth 1000000 in
theorem wd_149 : (Jvm.Cond.fieldLink "EchoLine" (28 : Nat) "EchoLine" "history" "LEchoLine$History;") ∈ WG := xWG (List.mem_of_getElem? (i := 149) rfl) (by decide +kernel)
theorem fk_X5_28 : xFld RX5 28 5 5 2 2 := ⟨by decide, RX5, TX5, rfl, by decide, rfl, wd_149⟩
set_option maxRecDepth 1000000 in
theorem wd_132 : (Jvm.Cond.classLink "EchoLine" (32 : Nat) "EchoLine$Text") ∈ WG := xWG (List.mem_of_getElem? (i := 132) rfl) (by decide +kernel)
set_option maxRecDepth 1000000 in
theorem wd_133 : (Jvm.Cond.instantiable "EchoLine$Text" (2 : Nat)) ∈ WG := xWG (List.mem_of_getElem? (i := 133) rfl) (by decide +kernel)
set_option maxRecDepth 1000000 in
theorem wd_25 : (Jvm.Cond.initialized "EchoLine$Text") ∈ WG := xWG (List.mem_of_getElem? (i := 25) rfl) (by decide +kernel)
set_option maxRecDepth 1000000 in
theorem wd_135 : (Jvm.Cond.instanceMethod ({ cls := "EchoLine$Text", name := "<init>", desc := "()V" } : Jvm.MethodName)) ∈ WG := xWG (List.mem_of_getElem? (i := 135) rfl) (by decide +kernel)
set_option maxRecDepth 1000000 in
theorem wn_134 : (Jvm.Cond.methodLinkNest "EchoLine" (34 : Nat) ({ cls := "EchoLine$Text", name := "<init>", desc := "()V" } : Jvm.MethodName) "EchoLine") ∈ WN := xWN (List.mem_of_getElem? (i := 134) rfl) (by decide +kernel)
set_option maxRecDepth 1000000 in
theorem wd_136 : (Jvm.Cond.code ({ cls := "EchoLine$Text", name := "<init>", desc := "()V" } : Jvm.MethodName) prog_6_method_1_code (1 : Nat) (Option.none : Option Jvm.ClassFile.FieldType)) ∈ WG := xWG (List.mem_of_getElem? (i := 136) rfl) (by decide +kernel)
theorem ck_X5_34 : xCaN RX5 34 yX4_init "EchoLine" cX4_init 1 none (.instanceMethod yX4_init) 0 := ⟨⟨wn_134, wd_135, wd_25, wd_136⟩, by decide +kernel, by decide +kernel, by decide +kernel⟩
set_option maxRecDepth 1000000 in
theorem wd_150 : (Jvm.Cond.fieldLink "EchoLine" (35 : Nat) "EchoLine" "text" "LEchoLine$Text;") ∈ WG := xWG (List.mem_of_getElem? (i := 150) rfl) (by decide +kernel)
theorem fk_X5_35 : xFld RX5 35 5 5 3 2 := ⟨by decide, RX5, TX5, rfl, by decide, rfl, wd_150⟩
set_option maxRecDepth 1000000 in
theorem wd_453 : (Jvm.Cond.methodLink "EchoLine" (39 : Nat) ({ cls := "EchoLine", name := "requireSeat", desc := "(I)V" } : Jvm.MethodName)) ∈ WG := xWG (List.mem_of_getElem? (i := 453) rfl) (by decide +kernel)
set_option maxRecDepth 1000000 in
theorem wd_454 : (Jvm.Cond.static ({ cls := "EchoLine", name := "requireSeat", desc := "(I)V" } : Jvm.MethodName)) ∈ WG := xWG (List.mem_of_getElem? (i := 454) rfl) (by decide +kernel)
set_option maxRecDepth 1000000 in
theorem wd_21 : (Jvm.Cond.initialized "EchoLine") ∈ WG := xWG (List.mem_of_getElem? (i := 21) rfl) (by decide +kernel)
set_option maxRecDepth 1000000 in
theorem wd_455 : (Jvm.Cond.code ({ cls := "EchoLine", name := "requireSeat", desc := "(I)V" } : Jvm.MethodName) prog_1_method_31_code (1 : Nat) (Option.none : Option Jvm.ClassFile.FieldType)) ∈ WG := xWG (List.mem_of_getElem? (i := 455) rfl) (by decide +kernel)
theorem ck_X5_39 : xCaS RX5 39 yX5_requireSeat cX5_requireSeat 1 none 1 := ⟨⟨wd_453, wd_454, wd_21, wd_455⟩, by decide +kernel, by decide +kernel, by decide +kernel⟩
set_option maxRecDepth 1000000 in
theorem wd_456 : (Jvm.Cond.methodLink "EchoLine" (43 : Nat) ({ cls := "EchoLine", name := "isWithin", desc := "(III)Z" } : Jvm.MethodName)) ∈ WG := xWG (List.mem_of_getElem? (i := 456) rfl) (by decide +kernel)
set_option maxRecDepth 1000000 in
theorem wd_457 : (Jvm.Cond.static ({ cls := "EchoLine", name := "isWithin", desc := "(III)Z" } : Jvm.MethodName)) ∈ WG := xWG (List.mem_of_getElem? (i := 457) rfl) (by decide +kernel)
set_option maxRecDepth 1000000 in
theorem wd_458 : (Jvm.Cond.code ({ cls := "EchoLine", name := "isWithin", desc := "(III)Z" } : Jvm.MethodName) prog_1_method_30_code (3 : Nat) (Option.some Jvm.ClassFile.FieldType.boolean)) ∈ WG := xWG (List.mem_of_getElem? (i := 458) rfl) (by decide +kernel)
theorem ck_X5_43 : xCaS RX5 43 yX5_isWithin cX5_isWithin 3 (some .boolean) 3 := ⟨⟨wd_456, wd_457, wd_21, wd_458⟩, by decide +kernel, by decide +kernel, by decide +kernel⟩
set_option maxRecDepth 1000000 in
theorem wd_475 : (Jvm.Cond.methodLink "EchoLine" (47 : Nat) ({ cls := "EchoLine", name := "require", desc := "(Z)V" } : Jvm.MethodName)) ∈ WG := xWG (List.mem_of_getElem? (i := 475) rfl) (by decide +kernel)
set_option maxRecDepth 1000000 in
theorem wd_476 : (Jvm.Cond.static ({ cls := "EchoLine", name := "require", desc := "(Z)V" } : Jvm.MethodName)) ∈ WG := xWG (List.mem_of_getElem? (i := 476) rfl) (by decide +kernel)
set_option maxRecDepth 1000000 in
theorem wd_477 : (Jvm.Cond.code ({ cls := "EchoLine", name := "require", desc := "(Z)V" } : Jvm.MethodName) prog_1_method_32_code (1 : Nat) (Option.none : Option Jvm.ClassFile.FieldType)) ∈ WG := xWG (List.mem_of_getElem? (i := 477) rfl) (by decide +kernel)
theorem ck_X5_47 : xCaS RX5 47 yX5_require cX5_require 1 none 1 := ⟨⟨wd_475, wd_476, wd_21, wd_477⟩, by decide +kernel, by decide +kernel, by decide +kernel⟩
set_option maxRecDepth 1000000 in
theorem wd_559 : (Jvm.Cond.methodLink "EchoLine" (51 : Nat) ({ cls := "EchoLine$Chamber", name := "canSpeak", desc := "()Z" } : Jvm.MethodName)) ∈ WG := xWG (List.mem_of_getElem? (i := 559) rfl) (by decide +kernel)
set_option maxRecDepth 1000000 in
theorem wd_560 : (Jvm.Cond.instanceMethod ({ cls := "EchoLine$Chamber", name := "canSpeak", desc := "()Z" } : Jvm.MethodName)) ∈ WG := xWG (List.mem_of_getElem? (i := 560) rfl) (by decide +kernel)
set_option maxRecDepth 1000000 in
theorem wd_561 : (Jvm.Cond.selects "EchoLine$Chamber" ({ cls := "EchoLine$Chamber", name := "canSpeak", desc := "()Z" } : Jvm.MethodName) ({ cls := "EchoLine$Chamber", name := "canSpeak", desc := "()Z" } : Jvm.MethodName)) ∈ WG := xWG (List.mem_of_getElem? (i := 561) rfl) (by decide +kernel)
set_option maxRecDepth 1000000 in
theorem wd_562 : (Jvm.Cond.code ({ cls := "EchoLine$Chamber", name := "canSpeak", desc := "()Z" } : Jvm.MethodName) prog_2_method_3_code (1 : Nat) (Option.some Jvm.ClassFile.FieldType.boolean)) ∈ WG := xWG (List.mem_of_getElem? (i := 562) rfl) (by decide +kernel)
theorem ck_X5_51 : xCal RX5 51 RX0 yX0_canSpeak cX0_canSpeak 1 (some .boolean) 0 := ⟨⟨wd_559, wd_560, wd_561, wd_22, wd_562⟩, rfl, by decide +kernel, by decide +kernel, by decide +kernel⟩
set_option maxRecDepth 1000000 in
theorem wd_434 : (Jvm.Cond.methodLink "EchoLine" (62 : Nat) ({ cls := "EchoLine$History", name := "save", desc := "(LEchoLine$Chamber;)V" } : Jvm.MethodName)) ∈ WG := xWG (List.mem_of_getElem? (i := 434) rfl) (by decide +kernel)
set_option maxRecDepth 1000000 in
theorem wd_435 : (Jvm.Cond.instanceMethod ({ cls := "EchoLine$History", name := "save", desc := "(LEchoLine$Chamber;)V" } : Jvm.MethodName)) ∈ WG := xWG (List.mem_of_getElem? (i := 435) rfl) (by decide +kernel)
set_option maxRecDepth 1000000 in
theorem wd_436 : (Jvm.Cond.selects "EchoLine$History" ({ cls := "EchoLine$History", name := "save", desc := "(LEchoLine$Chamber;)V" } : Jvm.MethodName) ({ cls := "EchoLine$History", name := "save", desc := "(LEchoLine$Chamber;)V" } : Jvm.MethodName)) ∈ WG := xWG (List.mem_of_getElem? (i := 436) rfl) (by decide +kernel)
set_option maxRecDepth 1000000 in
theorem wd_437 : (Jvm.Cond.code ({ cls := "EchoLine$History", name := "save", desc := "(LEchoLine$Chamber;)V" } : Jvm.MethodName) prog_4_method_2_code (3 : Nat) (Option.none : Option Jvm.ClassFile.FieldType)) ∈ WG := xWG (List.mem_of_getElem? (i := 437) rfl) (by decide +kernel)
theorem ck_X5_62 : xCal RX5 62 RX2 yX2_save cX2_save 3 none 1 := ⟨⟨wd_434, wd_435, wd_436, wd_24, wd_437⟩, rfl, by decide +kernel, by decide +kernel, by decide +kernel⟩
set_option maxRecDepth 1000000 in
theorem wd_564 : (Jvm.Cond.methodLink "EchoLine" (65 : Nat) ({ cls := "EchoLine$Chamber", name := "speak", desc := "(III)I" } : Jvm.MethodName)) ∈ WG := xWG (List.mem_of_getElem? (i := 564) rfl) (by decide +kernel)
set_option maxRecDepth 1000000 in
theorem wd_565 : (Jvm.Cond.instanceMethod ({ cls := "EchoLine$Chamber", name := "speak", desc := "(III)I" } : Jvm.MethodName)) ∈ WG := xWG (List.mem_of_getElem? (i := 565) rfl) (by decide +kernel)
set_option maxRecDepth 1000000 in
theorem wd_566 : (Jvm.Cond.selects "EchoLine$Chamber" ({ cls := "EchoLine$Chamber", name := "speak", desc := "(III)I" } : Jvm.MethodName) ({ cls := "EchoLine$Chamber", name := "speak", desc := "(III)I" } : Jvm.MethodName)) ∈ WG := xWG (List.mem_of_getElem? (i := 566) rfl) (by decide +kernel)
set_option maxRecDepth 1000000 in
theorem wd_567 : (Jvm.Cond.code ({ cls := "EchoLine$Chamber", name := "speak", desc := "(III)I" } : Jvm.MethodName) prog_2_method_4_code (7 : Nat) (Option.some Jvm.ClassFile.FieldType.int)) ∈ WG := xWG (List.mem_of_getElem? (i := 567) rfl) (by decide +kernel)
theorem ck_X5_65 : xCal RX5 65 RX0 yX0_speak cX0_speak 7 (some .int) 3 := ⟨⟨wd_564, wd_565, wd_566, wd_22, wd_567⟩, rfl, by decide +kernel, by decide +kernel, by decide +kernel⟩
set_option maxRecDepth 1000000 in
theorem wd_538 : (Jvm.Cond.methodLink "EchoLine" (69 : Nat) ({ cls := "EchoLine$Chamber", name := "canRest", desc := "(I)Z" } : Jvm.MethodName)) ∈ WG := xWG (List.mem_of_getElem? (i := 538) rfl) (by decide +kernel)
set_option maxRecDepth 1000000 in
theorem wd_539 : (Jvm.Cond.instanceMethod ({ cls := "EchoLine$Chamber", name := "canRest", desc := "(I)Z" } : Jvm.MethodName)) ∈ WG := xWG (List.mem_of_getElem? (i := 539) rfl) (by decide +kernel)
set_option maxRecDepth 1000000 in
theorem wd_540 : (Jvm.Cond.selects "EchoLine$Chamber" ({ cls := "EchoLine$Chamber", name := "canRest", desc := "(I)Z" } : Jvm.MethodName) ({ cls := "EchoLine$Chamber", name := "canRest", desc := "(I)Z" } : Jvm.MethodName)) ∈ WG := xWG (List.mem_of_getElem? (i := 540) rfl) (by decide +kernel)
set_option maxRecDepth 1000000 in
theorem wd_541 : (Jvm.Cond.code ({ cls := "EchoLine$Chamber", name := "canRest", desc := "(I)Z" } : Jvm.MethodName) prog_2_method_5_code (2 : Nat) (Option.some Jvm.ClassFile.FieldType.boolean)) ∈ WG := xWG (List.mem_of_getElem? (i := 541) rfl) (by decide +kernel)
theorem ck_X5_69 : xCal RX5 69 RX0 yX0_canRest cX0_canRest 2 (some .boolean) 1 := ⟨⟨wd_538, wd_539, wd_540, wd_22, wd_541⟩, rfl, by decide +kernel, by decide +kernel, by decide +kernel⟩
set_option maxRecDepth 1000000 in
theorem wd_543 : (Jvm.Cond.methodLink "EchoLine" (75 : Nat) ({ cls := "EchoLine$Chamber", name := "rest", desc := "(I)V" } : Jvm.MethodName)) ∈ WG := xWG (List.mem_of_getElem? (i := 543) rfl) (by decide +kernel)
set_option maxRecDepth 1000000 in
theorem wd_544 : (Jvm.Cond.instanceMethod ({ cls := "EchoLine$Chamber", name := "rest", desc := "(I)V" } : Jvm.MethodName)) ∈ WG := xWG (List.mem_of_getElem? (i := 544) rfl) (by decide +kernel)
set_option maxRecDepth 1000000 in
theorem wd_545 : (Jvm.Cond.selects "EchoLine$Chamber" ({ cls := "EchoLine$Chamber", name := "rest", desc := "(I)V" } : Jvm.MethodName) ({ cls := "EchoLine$Chamber", name := "rest", desc := "(I)V" } : Jvm.MethodName)) ∈ WG := xWG (List.mem_of_getElem? (i := 545) rfl) (by decide +kernel)
set_option maxRecDepth 1000000 in
theorem wd_546 : (Jvm.Cond.code ({ cls := "EchoLine$Chamber", name := "rest", desc := "(I)V" } : Jvm.MethodName) prog_2_method_6_code (3 : Nat) (Option.none : Option Jvm.ClassFile.FieldType)) ∈ WG := xWG (List.mem_of_getElem? (i := 546) rfl) (by decide +kernel)
theorem ck_X5_75 : xCal RX5 75 RX0 yX0_rest cX0_rest 3 none 1 := ⟨⟨wd_543, wd_544, wd_545, wd_22, wd_546⟩, rfl, by decide +kernel, by decide +kernel, by decide +kernel⟩
set_option maxRecDepth 1000000 in
theorem wd_52 : (Jvm.Cond.fieldLink "EchoLine" (78 : Nat) "EchoLine$Chamber" "beat" "I") ∈ WG := xWG (List.mem_of_getElem? (i := 52) rfl) (by decide +kernel)
theorem fk_X5_78 : xFld RX5 78 0 12 0 0 := ⟨by decide, RX0, TX0, rfl, by decide, rfl, wd_52⟩
set_option maxRecDepth 1000000 in
theorem wd_58 : (Jvm.Cond.fieldLink "EchoLine" (82 : Nat) "EchoLine$Chamber" "walls" "[I") ∈ WG := xWG (List.mem_of_getElem? (i := 58) rfl) (by decide +kernel)
theorem fk_X5_82 : xFld RX5 82 0 12 2 2 := ⟨by decide, RX0, TX0, rfl, by decide, rfl, wd_58⟩
set_option maxRecDepth 1000000 in
theorem wd_527 : (Jvm.Cond.fieldLink "EchoLine" (91 : Nat) "EchoLine" "LOWEST_VALUE" "[I") ∈ WG := xWG (List.mem_of_getElem? (i := 527) rfl) (by decide +kernel)
set_option maxRecDepth 1000000 in
theorem wd_529 : (Jvm.Cond.fieldLink "EchoLine" (94 : Nat) "EchoLine" "HIGHEST_VALUE" "[I") ∈ WG := xWG (List.mem_of_getElem? (i := 529) rfl) (by decide +kernel)
set_option maxRecDepth 1000000 in
theorem wd_61 : (Jvm.Cond.fieldLink "EchoLine" (97 : Nat) "EchoLine$Chamber" "settings" "[I") ∈ WG := xWG (List.mem_of_getElem? (i := 61) rfl) (by decide +kernel)
theorem fk_X5_97 : xFld RX5 97 0 12 3 2 := ⟨by decide, RX0, TX0, rfl, by decide, rfl, wd_61⟩
set_option maxRecDepth 1000000 in
theorem wd_349 : (Jvm.Cond.methodLink "EchoLine" (122 : Nat) ({ cls := "EchoLine$History", name := "latest", desc := "()LEchoLine$Chamber;" } : Jvm.MethodName)) ∈ WG := xWG (List.mem_of_getElem? (i := 349) rfl) (by decide +kernel)
set_option maxRecDepth 1000000 in
theorem wd_350 : (Jvm.Cond.instanceMethod ({ cls := "EchoLine$History", name := "latest", desc := "()LEchoLine$Chamber;" } : Jvm.MethodName)) ∈ WG := xWG (List.mem_of_getElem? (i := 350) rfl) (by decide +kernel)
set_option maxRecDepth 1000000 in
theorem wd_351 : (Jvm.Cond.selects "EchoLine$History" ({ cls := "EchoLine$History", name := "latest", desc := "()LEchoLine$Chamber;" } : Jvm.MethodName) ({ cls := "EchoLine$History", name := "latest", desc := "()LEchoLine$Chamber;" } : Jvm.MethodName)) ∈ WG := xWG (List.mem_of_getElem? (i := 351) rfl) (by decide +kernel)
set_option maxRecDepth 1000000 in
theorem wd_352 : (Jvm.Cond.code ({ cls := "EchoLine$History", name := "latest", desc := "()LEchoLine$Chamber;" } : Jvm.MethodName) prog_4_method_4_code (1 : Nat) (Option.some (Jvm.ClassFile.FieldType.object "EchoLine$Chamber"))) ∈ WG := xWG (List.mem_of_getElem? (i := 352) rfl) (by decide +kernel)
theorem ck_X5_122 : xCal RX5 122 RX2 yX2_latest cX2_latest 1 (some (.object "EchoLine$Chamber")) 0 := ⟨⟨wd_349, wd_350, wd_351, wd_24, wd_352⟩, rfl, by decide +kernel, by decide +kernel, by decide +kernel⟩
set_option maxRecDepth 1000000 in
theorem wd_167 : (Jvm.Cond.methodLink "EchoLine" (128 : Nat) ({ cls := "EchoLine$Chamber", name := "become", desc := "(LEchoLine$Chamber;)V" } : Jvm.MethodName)) ∈ WG := xWG (List.mem_of_getElem? (i := 167) rfl) (by decide +kernel)
theorem ck_X5_128 : xCal RX5 128 RX0 yX0_become cX0_become 3 none 1 := ⟨⟨wd_167, wd_168, wd_169, wd_22, wd_170⟩, rfl, by decide +kernel, by decide +kernel, by decide +kernel⟩
set_option maxRecDepth 1000000 in
theorem wd_421 : (Jvm.Cond.methodLink "EchoLine" (131 : Nat) ({ cls := "EchoLine$History", name := "dropLatest", desc := "()V" } : Jvm.MethodName)) ∈ WG := xWG (List.mem_of_getElem? (i := 421) rfl) (by decide +kernel)
set_option maxRecDepth 1000000 in
theorem wd_422 : (Jvm.Cond.instanceMethod ({ cls := "EchoLine$History", name := "dropLatest", desc := "()V" } : Jvm.MethodName)) ∈ WG := xWG (List.mem_of_getElem? (i := 422) rfl) (by decide +kernel)
set_option maxRecDepth 1000000 in
theorem wd_423 : (Jvm.Cond.selects "EchoLine$History" ({ cls := "EchoLine$History", name := "dropLatest", desc := "()V" } : Jvm.MethodName) ({ cls := "EchoLine$History", name := "dropLatest", desc := "()V" } : Jvm.MethodName)) ∈ WG := xWG (List.mem_of_getElem? (i := 423) rfl) (by decide +kernel)
set_option maxRecDepth 1000000 in
theorem wd_424 : (Jvm.Cond.code ({ cls := "EchoLine$History", name := "dropLatest", desc := "()V" } : Jvm.MethodName) prog_4_method_5_code (1 : Nat) (Option.none : Option Jvm.ClassFile.FieldType)) ∈ WG := xWG (List.mem_of_getElem? (i := 424) rfl) (by decide +kernel)
theorem ck_X5_131 : xCal RX5 131 RX2 yX2_dropLatest cX2_dropLatest 1 none 0 := ⟨⟨wd_421, wd_422, wd_423, wd_24, wd_424⟩, rfl, by decide +kernel, by decide +kernel, by decide +kernel⟩
set_option maxRecDepth 1000000 in
theorem wd_125 : (Jvm.Cond.fieldLink "EchoLine" (134 : Nat) "EchoLine$History" "size" "I") ∈ WG := xWG (List.mem_of_getElem? (i := 125) rfl) (by decide +kernel)
theorem fk_X5_134 : xFld RX5 134 2 2 0 0 := ⟨by decide, RX2, TX2, rfl, by decide, rfl, wd_125⟩
set_option maxRecDepth 1000000 in
theorem wd_151 : (Jvm.Cond.fieldLink "EchoLine" (137 : Nat) "EchoLine" "snapshot" "LEchoLine$Chamber;") ∈ WG := xWG (List.mem_of_getElem? (i := 151) rfl) (by decide +kernel)
theorem fk_X5_137 : xFld RX5 137 5 5 4 2 := ⟨by decide, RX5, TX5, rfl, by decide, rfl, wd_151⟩
set_option maxRecDepth 1000000 in
theorem wd_56 : (Jvm.Cond.fieldLink "EchoLine" (116 : Nat) "EchoLine$Chamber" "words" "I") ∈ WG := xWG (List.mem_of_getElem? (i := 56) rfl) (by decide +kernel)
theorem fk_X5_116 : xFld RX5 116 0 12 1 0 := ⟨by decide, RX0, TX0, rfl, by decide, rfl, wd_56⟩
set_option maxRecDepth 1000000 in
theorem wd_304 : (Jvm.Cond.methodLink "EchoLine" (142 : Nat) ({ cls := "EchoLine$Report", name := "ofWord", desc := "(II)I" } : Jvm.MethodName)) ∈ WG := xWG (List.mem_of_getElem? (i := 304) rfl) (by decide +kernel)
set_option maxRecDepth 1000000 in
theorem wd_305 : (Jvm.Cond.instanceMethod ({ cls := "EchoLine$Report", name := "ofWord", desc := "(II)I" } : Jvm.MethodName)) ∈ WG := xWG (List.mem_of_getElem? (i := 305) rfl) (by decide +kernel)
set_option maxRecDepth 1000000 in
theorem wd_306 : (Jvm.Cond.selects "EchoLine$Report" ({ cls := "EchoLine$Report", name := "ofWord", desc := "(II)I" } : Jvm.MethodName) ({ cls := "EchoLine$Report", name := "ofWord", desc := "(II)I" } : Jvm.MethodName)) ∈ WG := xWG (List.mem_of_getElem? (i := 306) rfl) (by decide +kernel)
set_option maxRecDepth 1000000 in
theorem wd_307 : (Jvm.Cond.code ({ cls := "EchoLine$Report", name := "ofWord", desc := "(II)I" } : Jvm.MethodName) prog_5_method_2_code (3 : Nat) (Option.some Jvm.ClassFile.FieldType.int)) ∈ WG := xWG (List.mem_of_getElem? (i := 307) rfl) (by decide +kernel)
theorem ck_X5_142 : xCal RX5 142 RX3 yX3_ofWord cX3_ofWord 3 (some .int) 2 := ⟨⟨wd_304, wd_305, wd_306, wd_23, wd_307⟩, rfl, by decide +kernel, by decide +kernel, by decide +kernel⟩
set_option maxRecDepth 1000000 in
theorem wd_73 : (Jvm.Cond.fieldLink "EchoLine" (146 : Nat) "EchoLine$Chamber" "comesAt" "[[I") ∈ WG := xWG (List.mem_of_getElem? (i := 73) rfl) (by decide +kernel)
theorem fk_X5_146 : xFld RX5 146 0 12 8 2 := ⟨by decide, RX0, TX0, rfl, by decide, rfl, wd_73⟩
set_option maxRecDepth 1000000 in
theorem wd_316 : (Jvm.Cond.methodLink "EchoLine" (150 : Nat) ({ cls := "EchoLine$Report", name := "ofBeat", desc := "(III)I" } : Jvm.MethodName)) ∈ WG := xWG (List.mem_of_getElem? (i := 316) rfl) (by decide +kernel)
set_option maxRecDepth 1000000 in
theorem wd_317 : (Jvm.Cond.instanceMethod ({ cls := "EchoLine$Report", name := "ofBeat", desc := "(III)I" } : Jvm.MethodName)) ∈ WG := xWG (List.mem_of_getElem? (i := 317) rfl) (by decide +kernel)
set_option maxRecDepth 1000000 in
theorem wd_318 : (Jvm.Cond.selects "EchoLine$Report" ({ cls := "EchoLine$Report", name := "ofBeat", desc := "(III)I" } : Jvm.MethodName) ({ cls := "EchoLine$Report", name := "ofBeat", desc := "(III)I" } : Jvm.MethodName)) ∈ WG := xWG (List.mem_of_getElem? (i := 318) rfl) (by decide +kernel)
set_option maxRecDepth 1000000 in
theorem wd_319 : (Jvm.Cond.code ({ cls := "EchoLine$Report", name := "ofBeat", desc := "(III)I" } : Jvm.MethodName) prog_5_method_4_code (5 : Nat) (Option.some Jvm.ClassFile.FieldType.int)) ∈ WG := xWG (List.mem_of_getElem? (i := 319) rfl) (by decide +kernel)
theorem ck_X5_150 : xCal RX5 150 RX3 yX3_ofBeat cX3_ofBeat 5 (some .int) 3 := ⟨⟨wd_316, wd_317, wd_318, wd_23, wd_319⟩, rfl, by decide +kernel, by decide +kernel, by decide +kernel⟩
set_option maxRecDepth 1000000 in
theorem wd_267 : (Jvm.Cond.methodLink "EchoLine" (153 : Nat) ({ cls := "EchoLine$Report", name := "ofSpeaker", desc := "(II)I" } : Jvm.MethodName)) ∈ WG := xWG (List.mem_of_getElem? (i := 267) rfl) (by decide +kernel)
set_option maxRecDepth 1000000 in
theorem wd_268 : (Jvm.Cond.instanceMethod ({ cls := "EchoLine$Report", name := "ofSpeaker", desc := "(II)I" } : Jvm.MethodName)) ∈ WG := xWG (List.mem_of_getElem? (i := 268) rfl) (by decide +kernel)
set_option maxRecDepth 1000000 in
theorem wd_269 : (Jvm.Cond.selects "EchoLine$Report" ({ cls := "EchoLine$Report", name := "ofSpeaker", desc := "(II)I" } : Jvm.MethodName) ({ cls := "EchoLine$Report", name := "ofSpeaker", desc := "(II)I" } : Jvm.MethodName)) ∈ WG := xWG (List.mem_of_getElem? (i := 269) rfl) (by decide +kernel)
set_option maxRecDepth 1000000 in
theorem wd_270 : (Jvm.Cond.code ({ cls := "EchoLine$Report", name := "ofSpeaker", desc := "(II)I" } : Jvm.MethodName) prog_5_method_6_code (3 : Nat) (Option.some Jvm.ClassFile.FieldType.int)) ∈ WG := xWG (List.mem_of_getElem? (i := 270) rfl) (by decide +kernel)
theorem ck_X5_153 : xCal RX5 153 RX3 yX3_ofSpeaker cX3_ofSpeaker 3 (some .int) 2 := ⟨⟨wd_267, wd_268, wd_269, wd_23, wd_270⟩, rfl, by decide +kernel, by decide +kernel, by decide +kernel⟩
set_option maxRecDepth 1000000 in
theorem wd_324 : (Jvm.Cond.methodLink "EchoLine" (156 : Nat) ({ cls := "EchoLine$Report", name := "hearingOf", desc := "(III)I" } : Jvm.MethodName)) ∈ WG := xWG (List.mem_of_getElem? (i := 324) rfl) (by decide +kernel)
theorem ck_X5_156 : xCal RX5 156 RX3 yX3_hearingOf cX3_hearingOf 11 (some .int) 3 := ⟨⟨wd_324, wd_252, wd_253, wd_23, wd_254⟩, rfl, by decide +kernel, by decide +kernel, by decide +kernel⟩
set_option maxRecDepth 1000000 in
theorem wd_223 : (Jvm.Cond.methodLink "EchoLine" (159 : Nat) ({ cls := "EchoLine", name := "total", desc := "(I)I" } : Jvm.MethodName)) ∈ WG := xWG (List.mem_of_getElem? (i := 223) rfl) (by decide +kernel)
set_option maxRecDepth 1000000 in
theorem wd_225 : (Jvm.Cond.instanceMethod ({ cls := "EchoLine", name := "total", desc := "(I)I" } : Jvm.MethodName)) ∈ WG := xWG (List.mem_of_getElem? (i := 225) rfl) (by decide +kernel)
set_option maxRecDepth 1000000 in
theorem wd_1 : (Jvm.Cond.selects "EchoLine" ({ cls := "EchoLine", name := "total", desc := "(I)I" } : Jvm.MethodName) ({ cls := "EchoLine", name := "total", desc := "(I)I" } : Jvm.MethodName)) ∈ WG := xWG (List.mem_of_getElem? (i := 1) rfl) (by decide +kernel)
set_option maxRecDepth 1000000 in
theorem wd_226 : (Jvm.Cond.code ({ cls := "EchoLine", name := "total", desc := "(I)I" } : Jvm.MethodName) prog_1_method_29_code (2 : Nat) (Option.some Jvm.ClassFile.FieldType.int)) ∈ WG := xWG (List.mem_of_getElem? (i := 226) rfl) (by decide +kernel)
theorem ck_X5_159 : xCal RX5 159 RX5 yX5_total cX5_total 2 (some .int) 1 := ⟨⟨wd_223, wd_225, wd_1, wd_21, wd_226⟩, rfl, by decide +kernel, by decide +kernel, by decide +kernel⟩
set_option maxRecDepth 1000000 in
theorem wd_308 : (Jvm.Cond.methodLink "EchoLine" (163 : Nat) ({ cls := "EchoLine$Report", name := "whyUnheard", desc := "(II)I" } : Jvm.MethodName)) ∈ WG := xWG (List.mem_of_getElem? (i := 308) rfl) (by decide +kernel)
set_option maxRecDepth 1000000 in
theorem wd_309 : (Jvm.Cond.instanceMethod ({ cls := "EchoLine$Report", name := "whyUnheard", desc := "(II)I" } : Jvm.MethodName)) ∈ WG := xWG (List.mem_of_getElem? (i := 309) rfl) (by decide +kernel)
set_option maxRecDepth 1000000 in
theorem wd_310 : (Jvm.Cond.selects "EchoLine$Report" ({ cls := "EchoLine$Report", name := "whyUnheard", desc := "(II)I" } : Jvm.MethodName) ({ cls := "EchoLine$Report", name := "whyUnheard", desc := "(II)I" } : Jvm.MethodName)) ∈ WG := xWG (List.mem_of_getElem? (i := 310) rfl) (by decide +kernel)
set_option maxRecDepth 1000000 in
theorem wd_311 : (Jvm.Cond.code ({ cls := "EchoLine$Report", name := "whyUnheard", desc := "(II)I" } : Jvm.MethodName) prog_5_method_19_code (4 : Nat) (Option.some Jvm.ClassFile.FieldType.int)) ∈ WG := xWG (List.mem_of_getElem? (i := 311) rfl) (by decide +kernel)
theorem ck_X5_163 : xCal RX5 163 RX3 yX3_whyUnheard cX3_whyUnheard 4 (some .int) 2 := ⟨⟨wd_308, wd_309, wd_310, wd_23, wd_311⟩, rfl, by decide +kernel, by decide +kernel, by decide +kernel⟩
set_option maxRecDepth 1000000 in
theorem wd_295 : (Jvm.Cond.methodLink "EchoLine" (166 : Nat) ({ cls := "EchoLine$Chamber", name := "secondLast", desc := "(II)I" } : Jvm.MethodName)) ∈ WG := xWG (List.mem_of_getElem? (i := 295) rfl) (by decide +kernel)
theorem ck_X5_166 : xCal RX5 166 RX0 yX0_secondLast cX0_secondLast 9 (some .int) 2 := ⟨⟨wd_295, wd_296, wd_297, wd_22, wd_298⟩, rfl, by decide +kernel, by decide +kernel, by decide +kernel⟩
set_option maxRecDepth 1000000 in
theorem wd_325 : (Jvm.Cond.methodLink "EchoLine" (169 : Nat) ({ cls := "EchoLine$Report", name := "silentBeatsUntilHeard", desc := "(II)I" } : Jvm.MethodName)) ∈ WG := xWG (List.mem_of_getElem? (i := 325) rfl) (by decide +kernel)
set_option maxRecDepth 1000000 in
theorem wd_326 : (Jvm.Cond.instanceMethod ({ cls := "EchoLine$Report", name := "silentBeatsUntilHeard", desc := "(II)I" } : Jvm.MethodName)) ∈ WG := xWG (List.mem_of_getElem? (i := 326) rfl) (by decide +kernel)
set_option maxRecDepth 1000000 in
theorem wd_327 : (Jvm.Cond.selects "EchoLine$Report" ({ cls := "EchoLine$Report", name := "silentBeatsUntilHeard", desc := "(II)I" } : Jvm.MethodName) ({ cls := "EchoLine$Report", name := "silentBeatsUntilHeard", desc := "(II)I" } : Jvm.MethodName)) ∈ WG := xWG (List.mem_of_getElem? (i := 327) rfl) (by decide +kernel)
set_option maxRecDepth 1000000 in
theorem wd_328 : (Jvm.Cond.code ({ cls := "EchoLine$Report", name := "silentBeatsUntilHeard", desc := "(II)I" } : Jvm.MethodName) prog_5_method_20_code (4 : Nat) (Option.some Jvm.ClassFile.FieldType.int)) ∈ WG := xWG (List.mem_of_getElem? (i := 328) rfl) (by decide +kernel)
theorem ck_X5_169 : xCal RX5 169 RX3 yX3_silentBeatsUntilHeard cX3_silentBeatsUntilHeard 4 (some .int) 2 := ⟨⟨wd_325, wd_326, wd_327, wd_23, wd_328⟩, rfl, by decide +kernel, by decide +kernel, by decide +kernel⟩
set_option maxRecDepth 1000000 in
theorem wd_178 : (Jvm.Cond.methodLink "EchoLine" (172 : Nat) ({ cls := "EchoLine$Report", name := "bestPlace", desc := "()I" } : Jvm.MethodName)) ∈ WG := xWG (List.mem_of_getElem? (i := 178) rfl) (by decide +kernel)
set_option maxRecDepth 1000000 in
theorem wd_179 : (Jvm.Cond.instanceMethod ({ cls := "EchoLine$Report", name := "bestPlace", desc := "()I" } : Jvm.MethodName)) ∈ WG := xWG (List.mem_of_getElem? (i := 179) rfl) (by decide +kernel)
set_option maxRecDepth 1000000 in
theorem wd_180 : (Jvm.Cond.selects "EchoLine$Report" ({ cls := "EchoLine$Report", name := "bestPlace", desc := "()I" } : Jvm.MethodName) ({ cls := "EchoLine$Report", name := "bestPlace", desc := "()I" } : Jvm.MethodName)) ∈ WG := xWG (List.mem_of_getElem? (i := 180) rfl) (by decide +kernel)
set_option maxRecDepth 1000000 in
theorem wd_181 : (Jvm.Cond.code ({ cls := "EchoLine$Report", name := "bestPlace", desc := "()I" } : Jvm.MethodName) prog_5_method_21_code (9 : Nat) (Option.some Jvm.ClassFile.FieldType.int)) ∈ WG := xWG (List.mem_of_getElem? (i := 181) rfl) (by decide +kernel)
theorem ck_X5_172 : xCal RX5 172 RX3 yX3_bestPlace cX3_bestPlace 9 (some .int) 0 := ⟨⟨wd_178, wd_179, wd_180, wd_23, wd_181⟩, rfl, by decide +kernel, by decide +kernel, by decide +kernel⟩
set_option maxRecDepth 1000000 in
theorem wd_199 : (Jvm.Cond.methodLink "EchoLine" (175 : Nat) ({ cls := "EchoLine$Report", name := "share", desc := "()D" } : Jvm.MethodName)) ∈ WG := xWG (List.mem_of_getElem? (i := 199) rfl) (by decide +kernel)
set_option maxRecDepth 1000000 in
theorem wd_200 : (Jvm.Cond.instanceMethod ({ cls := "EchoLine$Report", name := "share", desc := "()D" } : Jvm.MethodName)) ∈ WG := xWG (List.mem_of_getElem? (i := 200) rfl) (by decide +kernel)
set_option maxRecDepth 1000000 in
theorem wd_201 : (Jvm.Cond.selects "EchoLine$Report" ({ cls := "EchoLine$Report", name := "share", desc := "()D" } : Jvm.MethodName) ({ cls := "EchoLine$Report", name := "share", desc := "()D" } : Jvm.MethodName)) ∈ WG := xWG (List.mem_of_getElem? (i := 201) rfl) (by decide +kernel)
set_option maxRecDepth 1000000 in
theorem wd_202 : (Jvm.Cond.code ({ cls := "EchoLine$Report", name := "share", desc := "()D" } : Jvm.MethodName) prog_5_method_22_code (3 : Nat) (Option.some Jvm.ClassFile.FieldType.double)) ∈ WG := xWG (List.mem_of_getElem? (i := 202) rfl) (by decide +kernel)
theorem ck_X5_175 : xCal RX5 175 RX3 yX3_share cX3_share 3 (some .double) 0 := ⟨⟨wd_199, wd_200, wd_201, wd_23, wd_202⟩, rfl, by decide +kernel, by decide +kernel, by decide +kernel⟩
set_option maxRecDepth 1000000 in
theorem wd_211 : (Jvm.Cond.classLink "EchoLine" (179 : Nat) "EchoLine$Hash") ∈ WG := xWG (List.mem_of_getElem? (i := 211) rfl) (by decide +kernel)
set_option maxRecDepth 1000000 in
theorem wd_212 : (Jvm.Cond.instantiable "EchoLine$Hash" (1 : Nat)) ∈ WG := xWG (List.mem_of_getElem? (i := 212) rfl) (by decide +kernel)
set_option maxRecDepth 1000000 in
theorem wd_32 : (Jvm.Cond.initialized "EchoLine$Hash") ∈ WG := xWG (List.mem_of_getElem? (i := 32) rfl) (by decide +kernel)
set_option maxRecDepth 1000000 in
theorem wd_214 : (Jvm.Cond.instanceMethod ({ cls := "EchoLine$Hash", name := "<init>", desc := "()V" } : Jvm.MethodName)) ∈ WG := xWG (List.mem_of_getElem? (i := 214) rfl) (by decide +kernel)
set_option maxRecDepth 1000000 in
theorem wn_213 : (Jvm.Cond.methodLinkNest "EchoLine" (181 : Nat) ({ cls := "EchoLine$Hash", name := "<init>", desc := "()V" } : Jvm.MethodName) "EchoLine") ∈ WN := xWN (List.mem_of_getElem? (i := 213) rfl) (by decide +kernel)
set_option maxRecDepth 1000000 in
theorem wd_215 : (Jvm.Cond.code ({ cls := "EchoLine$Hash", name := "<init>", desc := "()V" } : Jvm.MethodName) prog_3_method_1_code (1 : Nat) (Option.none : Option Jvm.ClassFile.FieldType)) ∈ WG := xWG (List.mem_of_getElem? (i := 215) rfl) (by decide +kernel)
theorem ck_X5_181 : xCaN RX5 181 yX1_init "EchoLine" cX1_init 1 none (.instanceMethod yX1_init) 0 := ⟨⟨wn_213, wd_214, wd_32, wd_215⟩, by decide +kernel, by decide +kernel, by decide +kernel⟩
set_option maxRecDepth 1000000 in
theorem wd_258 : (Jvm.Cond.methodLink "EchoLine" (182 : Nat) ({ cls := "EchoLine$Hash", name := "take", desc := "(J)V" } : Jvm.MethodName)) ∈ WG := xWG (List.mem_of_getElem? (i := 258) rfl) (by decide +kernel)
set_option maxRecDepth 1000000 in
theorem wd_259 : (Jvm.Cond.instanceMethod ({ cls := "EchoLine$Hash", name := "take", desc := "(J)V" } : Jvm.MethodName)) ∈ WG := xWG (List.mem_of_getElem? (i := 259) rfl) (by decide +kernel)
set_option maxRecDepth 1000000 in
theorem wd_260 : (Jvm.Cond.selects "EchoLine$Hash" ({ cls := "EchoLine$Hash", name := "take", desc := "(J)V" } : Jvm.MethodName) ({ cls := "EchoLine$Hash", name := "take", desc := "(J)V" } : Jvm.MethodName)) ∈ WG := xWG (List.mem_of_getElem? (i := 260) rfl) (by decide +kernel)
set_option maxRecDepth 1000000 in
theorem wd_261 : (Jvm.Cond.code ({ cls := "EchoLine$Hash", name := "take", desc := "(J)V" } : Jvm.MethodName) prog_3_method_2_code (3 : Nat) (Option.none : Option Jvm.ClassFile.FieldType)) ∈ WG := xWG (List.mem_of_getElem? (i := 261) rfl) (by decide +kernel)
theorem ck_X5_182 : xCal RX5 182 RX1 yX1_take cX1_take 3 none 1 := ⟨⟨wd_258, wd_259, wd_260, wd_32, wd_261⟩, rfl, by decide +kernel, by decide +kernel, by decide +kernel⟩
set_option maxRecDepth 1000000 in
theorem wd_263 : (Jvm.Cond.methodLink "EchoLine" (186 : Nat) ({ cls := "EchoLine", name := "takeSpeakers", desc := "(LEchoLine$Hash;)V" } : Jvm.MethodName)) ∈ WG := xWG (List.mem_of_getElem? (i := 263) rfl) (by decide +kernel)
set_option maxRecDepth 1000000 in
theorem wd_265 : (Jvm.Cond.instanceMethod ({ cls := "EchoLine", name := "takeSpeakers", desc := "(LEchoLine$Hash;)V" } : Jvm.MethodName)) ∈ WG := xWG (List.mem_of_getElem? (i := 265) rfl) (by decide +kernel)
set_option maxRecDepth 1000000 in
theorem wd_7 : (Jvm.Cond.selects "EchoLine" ({ cls := "EchoLine", name := "takeSpeakers", desc := "(LEchoLine$Hash;)V" } : Jvm.MethodName) ({ cls := "EchoLine", name := "takeSpeakers", desc := "(LEchoLine$Hash;)V" } : Jvm.MethodName)) ∈ WG := xWG (List.mem_of_getElem? (i := 7) rfl) (by decide +kernel)
set_option maxRecDepth 1000000 in
theorem wd_266 : (Jvm.Cond.code ({ cls := "EchoLine", name := "takeSpeakers", desc := "(LEchoLine$Hash;)V" } : Jvm.MethodName) prog_1_method_25_code (4 : Nat) (Option.none : Option Jvm.ClassFile.FieldType)) ∈ WG := xWG (List.mem_of_getElem? (i := 266) rfl) (by decide +kernel)
theorem ck_X5_186 : xCal RX5 186 RX5 yX5_takeSpeakers cX5_takeSpeakers 4 none 1 := ⟨⟨wd_263, wd_265, wd_7, wd_21, wd_266⟩, rfl, by decide +kernel, by decide +kernel, by decide +kernel⟩
set_option maxRecDepth 1000000 in
theorem wd_299 : (Jvm.Cond.methodLink "EchoLine" (190 : Nat) ({ cls := "EchoLine", name := "takeLatestWords", desc := "(LEchoLine$Hash;)V" } : Jvm.MethodName)) ∈ WG := xWG (List.mem_of_getElem? (i := 299) rfl) (by decide +kernel)
set_option maxRecDepth 1000000 in
theorem wd_301 : (Jvm.Cond.instanceMethod ({ cls := "EchoLine", name := "takeLatestWords", desc := "(LEchoLine$Hash;)V" } : Jvm.MethodName)) ∈ WG := xWG (List.mem_of_getElem? (i := 301) rfl) (by decide +kernel)
set_option maxRecDepth 1000000 in
theorem wd_14 : (Jvm.Cond.selects "EchoLine" ({ cls := "EchoLine", name := "takeLatestWords", desc := "(LEchoLine$Hash;)V" } : Jvm.MethodName) ({ cls := "EchoLine", name := "takeLatestWords", desc := "(LEchoLine$Hash;)V" } : Jvm.MethodName)) ∈ WG := xWG (List.mem_of_getElem? (i := 14) rfl) (by decide +kernel)
set_option maxRecDepth 1000000 in
theorem wd_302 : (Jvm.Cond.code ({ cls := "EchoLine", name := "takeLatestWords", desc := "(LEchoLine$Hash;)V" } : Jvm.MethodName) prog_1_method_26_code (5 : Nat) (Option.none : Option Jvm.ClassFile.FieldType)) ∈ WG := xWG (List.mem_of_getElem? (i := 302) rfl) (by decide +kernel)
theorem ck_X5_190 : xCal RX5 190 RX5 yX5_takeLatestWords cX5_takeLatestWords 5 none 1 := ⟨⟨wd_299, wd_301, wd_14, wd_21, wd_302⟩, rfl, by decide +kernel, by decide +kernel, by decide +kernel⟩
set_option maxRecDepth 1000000 in
theorem wd_312 : (Jvm.Cond.methodLink "EchoLine" (193 : Nat) ({ cls := "EchoLine", name := "takeLatestBeats", desc := "(LEchoLine$Hash;)V" } : Jvm.MethodName)) ∈ WG := xWG (List.mem_of_getElem? (i := 312) rfl) (by decide +kernel)
set_option maxRecDepth 1000000 in
theorem wd_314 : (Jvm.Cond.instanceMethod ({ cls := "EchoLine", name := "takeLatestBeats", desc := "(LEchoLine$Hash;)V" } : Jvm.MethodName)) ∈ WG := xWG (List.mem_of_getElem? (i := 314) rfl) (by decide +kernel)
set_option maxRecDepth 1000000 in
theorem wd_15 : (Jvm.Cond.selects "EchoLine" ({ cls := "EchoLine", name := "takeLatestBeats", desc := "(LEchoLine$Hash;)V" } : Jvm.MethodName) ({ cls := "EchoLine", name := "takeLatestBeats", desc := "(LEchoLine$Hash;)V" } : Jvm.MethodName)) ∈ WG := xWG (List.mem_of_getElem? (i := 15) rfl) (by decide +kernel)
set_option maxRecDepth 1000000 in
theorem wd_315 : (Jvm.Cond.code ({ cls := "EchoLine", name := "takeLatestBeats", desc := "(LEchoLine$Hash;)V" } : Jvm.MethodName) prog_1_method_27_code (6 : Nat) (Option.none : Option Jvm.ClassFile.FieldType)) ∈ WG := xWG (List.mem_of_getElem? (i := 315) rfl) (by decide +kernel)
theorem ck_X5_193 : xCal RX5 193 RX5 yX5_takeLatestBeats cX5_takeLatestBeats 6 none 1 := ⟨⟨wd_312, wd_314, wd_15, wd_21, wd_315⟩, rfl, by decide +kernel, by decide +kernel, by decide +kernel⟩
set_option maxRecDepth 1000000 in
theorem wd_320 : (Jvm.Cond.methodLink "EchoLine" (196 : Nat) ({ cls := "EchoLine", name := "takeMessages", desc := "(LEchoLine$Hash;)V" } : Jvm.MethodName)) ∈ WG := xWG (List.mem_of_getElem? (i := 320) rfl) (by decide +kernel)
set_option maxRecDepth 1000000 in
theorem wd_322 : (Jvm.Cond.instanceMethod ({ cls := "EchoLine", name := "takeMessages", desc := "(LEchoLine$Hash;)V" } : Jvm.MethodName)) ∈ WG := xWG (List.mem_of_getElem? (i := 322) rfl) (by decide +kernel)
set_option maxRecDepth 1000000 in
theorem wd_16 : (Jvm.Cond.selects "EchoLine" ({ cls := "EchoLine", name := "takeMessages", desc := "(LEchoLine$Hash;)V" } : Jvm.MethodName) ({ cls := "EchoLine", name := "takeMessages", desc := "(LEchoLine$Hash;)V" } : Jvm.MethodName)) ∈ WG := xWG (List.mem_of_getElem? (i := 16) rfl) (by decide +kernel)
set_option maxRecDepth 1000000 in
theorem wd_323 : (Jvm.Cond.code ({ cls := "EchoLine", name := "takeMessages", desc := "(LEchoLine$Hash;)V" } : Jvm.MethodName) prog_1_method_28_code (6 : Nat) (Option.none : Option Jvm.ClassFile.FieldType)) ∈ WG := xWG (List.mem_of_getElem? (i := 323) rfl) (by decide +kernel)
theorem ck_X5_196 : xCal RX5 196 RX5 yX5_takeMessages cX5_takeMessages 6 none 1 := ⟨⟨wd_320, wd_322, wd_16, wd_21, wd_323⟩, rfl, by decide +kernel, by decide +kernel, by decide +kernel⟩
set_option maxRecDepth 1000000 in
theorem wd_330 : (Jvm.Cond.constantLong "EchoLine" (199 : Nat) (-1 : Int64)) ∈ WG := xWG (List.mem_of_getElem? (i := 330) rfl) (by decide +kernel)
set_option maxRecDepth 1000000 in
theorem wd_331 : (Jvm.Cond.methodLink "EchoLine" (201 : Nat) ({ cls := "EchoLine$Hash", name := "bitsOf", desc := "(D)J" } : Jvm.MethodName)) ∈ WG := xWG (List.mem_of_getElem? (i := 331) rfl) (by decide +kernel)
set_option maxRecDepth 1000000 in
theorem wd_332 : (Jvm.Cond.static ({ cls := "EchoLine$Hash", name := "bitsOf", desc := "(D)J" } : Jvm.MethodName)) ∈ WG := xWG (List.mem_of_getElem? (i := 332) rfl) (by decide +kernel)
set_option maxRecDepth 1000000 in
theorem wd_333 : (Jvm.Cond.code ({ cls := "EchoLine$Hash", name := "bitsOf", desc := "(D)J" } : Jvm.MethodName) prog_3_method_3_code (6 : Nat) (Option.some Jvm.ClassFile.FieldType.long)) ∈ WG := xWG (List.mem_of_getElem? (i := 333) rfl) (by decide +kernel)
theorem ck_X5_201 : xCaS RX5 201 yX1_bitsOf cX1_bitsOf 6 (some .long) 1 := ⟨⟨wd_331, wd_332, wd_32, wd_333⟩, by decide +kernel, by decide +kernel, by decide +kernel⟩
set_option maxRecDepth 1000000 in
theorem wd_138 : (Jvm.Cond.fieldLink "EchoLine" (100 : Nat) "EchoLine$Text" "length" "I") ∈ WG := xWG (List.mem_of_getElem? (i := 138) rfl) (by decide +kernel)
theorem fk_X5_100 : xFld RX5 100 4 2 0 0 := ⟨by decide, RX4, TX4, rfl, by decide, rfl, wd_138⟩
set_option maxRecDepth 1000000 in
theorem wd_140 : (Jvm.Cond.fieldLink "EchoLine" (205 : Nat) "EchoLine$Text" "signs" "[C") ∈ WG := xWG (List.mem_of_getElem? (i := 140) rfl) (by decide +kernel)
theorem fk_X5_205 : xFld RX5 205 4 2 1 2 := ⟨by decide, RX4, TX4, rfl, by decide, rfl, wd_140⟩
set_option maxRecDepth 1000000 in
theorem wd_219 : (Jvm.Cond.fieldLink "EchoLine" (209 : Nat) "EchoLine$Hash" "value" "J") ∈ WG := xWG (List.mem_of_getElem? (i := 219) rfl) (by decide +kernel)
theorem fk_X5_209 : xFld RX5 209 1 1 0 1 := ⟨by decide, RX1, TX1, rfl, by decide, rfl, wd_219⟩
set_option maxRecDepth 1000000 in
theorem wd_303 : (Jvm.Cond.methodLink "EchoLine" (213 : Nat) ({ cls := "java/lang/Math", name := "max", desc := "(II)I" } : Jvm.MethodName)) ∈ WG := xWG (List.mem_of_getElem? (i := 303) rfl) (by decide +kernel)
set_option maxRecDepth 1000000 in
theorem wd_227 : (Jvm.Cond.methodLink "EchoLine" (218 : Nat) ({ cls := "EchoLine$Report", name := "ofAll", desc := "(I)I" } : Jvm.MethodName)) ∈ WG := xWG (List.mem_of_getElem? (i := 227) rfl) (by decide +kernel)
set_option maxRecDepth 1000000 in
theorem wd_228 : (Jvm.Cond.instanceMethod ({ cls := "EchoLine$Report", name := "ofAll", desc := "(I)I" } : Jvm.MethodName)) ∈ WG := xWG (List.mem_of_getElem? (i := 228) rfl) (by decide +kernel)
set_option maxRecDepth 1000000 in
theorem wd_229 : (Jvm.Cond.selects "EchoLine$Report" ({ cls := "EchoLine$Report", name := "ofAll", desc := "(I)I" } : Jvm.MethodName) ({ cls := "EchoLine$Report", name := "ofAll", desc := "(I)I" } : Jvm.MethodName)) ∈ WG := xWG (List.mem_of_getElem? (i := 229) rfl) (by decide +kernel)
set_option maxRecDepth 1000000 in
theorem wd_230 : (Jvm.Cond.code ({ cls := "EchoLine$Report", name := "ofAll", desc := "(I)I" } : Jvm.MethodName) prog_5_method_14_code (2 : Nat) (Option.some Jvm.ClassFile.FieldType.int)) ∈ WG := xWG (List.mem_of_getElem? (i := 230) rfl) (by decide +kernel)
theorem ck_X5_218 : xCal RX5 218 RX3 yX3_ofAll cX3_ofAll 2 (some .int) 1 := ⟨⟨wd_227, wd_228, wd_229, wd_23, wd_230⟩, rfl, by decide +kernel, by decide +kernel, by decide +kernel⟩
set_option maxRecDepth 1000000 in
theorem wd_339 : (Jvm.Cond.constant "EchoLineLaw" (7 : Nat) (48397 : Int32)) ∈ WG := xWG (List.mem_of_getElem? (i := 339) rfl) (by decide +kernel)
set_option maxRecDepth 1000000 in
theorem wd_340 : (Jvm.Cond.constant "EchoLineLaw" (8 : Nat) (2147483647 : Int32)) ∈ WG := xWG (List.mem_of_getElem? (i := 340) rfl) (by decide +kernel)
set_option maxRecDepth 1000000 in
theorem wd_555 : (Jvm.Cond.methodLink "EchoLineLaw" (9 : Nat) ({ cls := "EchoLine", name := "say", desc := "(III)I" } : Jvm.MethodName)) ∈ WG := xWG (List.mem_of_getElem? (i := 555) rfl) (by decide +kernel)
set_option maxRecDepth 1000000 in
theorem wd_556 : (Jvm.Cond.instanceMethod ({ cls := "EchoLine", name := "say", desc := "(III)I" } : Jvm.MethodName)) ∈ WG := xWG (List.mem_of_getElem? (i := 556) rfl) (by decide +kernel)
set_option maxRecDepth 1000000 in
theorem wd_557 : (Jvm.Cond.selects "EchoLine" ({ cls := "EchoLine", name := "say", desc := "(III)I" } : Jvm.MethodName) ({ cls := "EchoLine", name := "say", desc := "(III)I" } : Jvm.MethodName)) ∈ WG := xWG (List.mem_of_getElem? (i := 557) rfl) (by decide +kernel)
set_option maxRecDepth 1000000 in
theorem wd_558 : (Jvm.Cond.code ({ cls := "EchoLine", name := "say", desc := "(III)I" } : Jvm.MethodName) prog_1_method_2_code (4 : Nat) (Option.some Jvm.ClassFile.FieldType.int)) ∈ WG := xWG (List.mem_of_getElem? (i := 558) rfl) (by decide +kernel)
theorem ck_L_9 : xCal RL 9 RX5 yX5_say cX5_say 4 (some .int) 3 := ⟨⟨wd_555, wd_556, wd_557, wd_21, wd_558⟩, rfl, by decide +kernel, by decide +kernel, by decide +kernel⟩
set_option maxRecDepth 1000000 in
theorem wd_425 : (Jvm.Cond.constant "EchoLineLaw" (17 : Nat) (-2000001 : Int32)) ∈ WG := xWG (List.mem_of_getElem? (i := 425) rfl) (by decide +kernel)
set_option maxRecDepth 1000000 in
theorem wd_494 : (Jvm.Cond.constant "EchoLineLaw" (20 : Nat) (-2000002 : Int32)) ∈ WG := xWG (List.mem_of_getElem? (i := 494) rfl) (by decide +kernel)
set_option maxRecDepth 1000000 in
theorem wd_570 : (Jvm.Cond.constant "EchoLineLaw" (23 : Nat) (-2000003 : Int32)) ∈ WG := xWG (List.mem_of_getElem? (i := 570) rfl) (by decide +kernel)
set_option maxRecDepth 1000000 in
theorem wd_534 : (Jvm.Cond.methodLink "EchoLineLaw" (24 : Nat) ({ cls := "EchoLine", name := "pass", desc := "(I)I" } : Jvm.MethodName)) ∈ WG := xWG (List.mem_of_getElem? (i := 534) rfl) (by decide +kernel)
set_option maxRecDepth 1000000 in
theorem wd_535 : (Jvm.Cond.instanceMethod ({ cls := "EchoLine", name := "pass", desc := "(I)I" } : Jvm.MethodName)) ∈ WG := xWG (List.mem_of_getElem? (i := 535) rfl) (by decide +kernel)
set_option maxRecDepth 1000000 in
theorem wd_536 : (Jvm.Cond.selects "EchoLine" ({ cls := "EchoLine", name := "pass", desc := "(I)I" } : Jvm.MethodName) ({ cls := "EchoLine", name := "pass", desc := "(I)I" } : Jvm.MethodName)) ∈ WG := xWG (List.mem_of_getElem? (i := 536) rfl) (by decide +kernel)
set_option maxRecDepth 1000000 in
theorem wd_537 : (Jvm.Cond.code ({ cls := "EchoLine", name := "pass", desc := "(I)I" } : Jvm.MethodName) prog_1_method_3_code (2 : Nat) (Option.some Jvm.ClassFile.FieldType.int)) ∈ WG := xWG (List.mem_of_getElem? (i := 537) rfl) (by decide +kernel)
theorem ck_L_24 : xCal RL 24 RX5 yX5_pass cX5_pass 2 (some .int) 1 := ⟨⟨wd_534, wd_535, wd_536, wd_21, wd_537⟩, rfl, by decide +kernel, by decide +kernel, by decide +kernel⟩
set_option maxRecDepth 1000000 in
theorem wd_515 : (Jvm.Cond.methodLink "EchoLineLaw" (28 : Nat) ({ cls := "EchoLine", name := "wall", desc := "(II)I" } : Jvm.MethodName)) ∈ WG := xWG (List.mem_of_getElem? (i := 515) rfl) (by decide +kernel)
set_option maxRecDepth 1000000 in
theorem wd_516 : (Jvm.Cond.instanceMethod ({ cls := "EchoLine", name := "wall", desc := "(II)I" } : Jvm.MethodName)) ∈ WG := xWG (List.mem_of_getElem? (i := 516) rfl) (by decide +kernel)
set_option maxRecDepth 1000000 in
theorem wd_517 : (Jvm.Cond.selects "EchoLine" ({ cls := "EchoLine", name := "wall", desc := "(II)I" } : Jvm.MethodName) ({ cls := "EchoLine", name := "wall", desc := "(II)I" } : Jvm.MethodName)) ∈ WG := xWG (List.mem_of_getElem? (i := 517) rfl) (by decide +kernel)
set_option maxRecDepth 1000000 in
theorem wd_518 : (Jvm.Cond.code ({ cls := "EchoLine", name := "wall", desc := "(II)I" } : Jvm.MethodName) prog_1_method_4_code (4 : Nat) (Option.some Jvm.ClassFile.FieldType.int)) ∈ WG := xWG (List.mem_of_getElem? (i := 518) rfl) (by decide +kernel)
theorem ck_L_28 : xCal RL 28 RX5 yX5_wall cX5_wall 4 (some .int) 2 := ⟨⟨wd_515, wd_516, wd_517, wd_21, wd_518⟩, rfl, by decide +kernel, by decide +kernel, by decide +kernel⟩
set_option maxRecDepth 1000000 in
theorem wd_522 : (Jvm.Cond.methodLink "EchoLineLaw" (32 : Nat) ({ cls := "EchoLine", name := "set", desc := "(II)I" } : Jvm.MethodName)) ∈ WG := xWG (List.mem_of_getElem? (i := 522) rfl) (by decide +kernel)
set_option maxRecDepth 1000000 in
theorem wd_523 : (Jvm.Cond.instanceMethod ({ cls := "EchoLine", name := "set", desc := "(II)I" } : Jvm.MethodName)) ∈ WG := xWG (List.mem_of_getElem? (i := 523) rfl) (by decide +kernel)
set_option maxRecDepth 1000000 in
theorem wd_524 : (Jvm.Cond.selects "EchoLine" ({ cls := "EchoLine", name := "set", desc := "(II)I" } : Jvm.MethodName) ({ cls := "EchoLine", name := "set", desc := "(II)I" } : Jvm.MethodName)) ∈ WG := xWG (List.mem_of_getElem? (i := 524) rfl) (by decide +kernel)
set_option maxRecDepth 1000000 in
theorem wd_525 : (Jvm.Cond.code ({ cls := "EchoLine", name := "set", desc := "(II)I" } : Jvm.MethodName) prog_1_method_5_code (4 : Nat) (Option.some Jvm.ClassFile.FieldType.int)) ∈ WG := xWG (List.mem_of_getElem? (i := 525) rfl) (by decide +kernel)
theorem ck_L_32 : xCal RL 32 RX5 yX5_set cX5_set 4 (some .int) 2 := ⟨⟨wd_522, wd_523, wd_524, wd_21, wd_525⟩, rfl, by decide +kernel, by decide +kernel, by decide +kernel⟩
set_option maxRecDepth 1000000 in
theorem wd_345 : (Jvm.Cond.methodLink "EchoLineLaw" (35 : Nat) ({ cls := "EchoLine", name := "undo", desc := "()I" } : Jvm.MethodName)) ∈ WG := xWG (List.mem_of_getElem? (i := 345) rfl) (by decide +kernel)
set_option maxRecDepth 1000000 in
theorem wd_346 : (Jvm.Cond.instanceMethod ({ cls := "EchoLine", name := "undo", desc := "()I" } : Jvm.MethodName)) ∈ WG := xWG (List.mem_of_getElem? (i := 346) rfl) (by decide +kernel)
set_option maxRecDepth 1000000 in
theorem wd_347 : (Jvm.Cond.selects "EchoLine" ({ cls := "EchoLine", name := "undo", desc := "()I" } : Jvm.MethodName) ({ cls := "EchoLine", name := "undo", desc := "()I" } : Jvm.MethodName)) ∈ WG := xWG (List.mem_of_getElem? (i := 347) rfl) (by decide +kernel)
set_option maxRecDepth 1000000 in
theorem wd_348 : (Jvm.Cond.code ({ cls := "EchoLine", name := "undo", desc := "()I" } : Jvm.MethodName) prog_1_method_10_code (2 : Nat) (Option.some Jvm.ClassFile.FieldType.int)) ∈ WG := xWG (List.mem_of_getElem? (i := 348) rfl) (by decide +kernel)
theorem ck_L_35 : xCal RL 35 RX5 yX5_undo cX5_undo 2 (some .int) 0 := ⟨⟨wd_345, wd_346, wd_347, wd_21, wd_348⟩, rfl, by decide +kernel, by decide +kernel, by decide +kernel⟩
set_option maxRecDepth 1000000 in
theorem wd_429 : (Jvm.Cond.methodLink "EchoLineLaw" (39 : Nat) ({ cls := "EchoLine", name := "restore", desc := "()I" } : Jvm.MethodName)) ∈ WG := xWG (List.mem_of_getElem? (i := 429) rfl) (by decide +kernel)
set_option maxRecDepth 1000000 in
theorem wd_430 : (Jvm.Cond.instanceMethod ({ cls := "EchoLine", name := "restore", desc := "()I" } : Jvm.MethodName)) ∈ WG := xWG (List.mem_of_getElem? (i := 430) rfl) (by decide +kernel)
set_option maxRecDepth 1000000 in
theorem wd_431 : (Jvm.Cond.selects "EchoLine" ({ cls := "EchoLine", name := "restore", desc := "()I" } : Jvm.MethodName) ({ cls := "EchoLine", name := "restore", desc := "()I" } : Jvm.MethodName)) ∈ WG := xWG (List.mem_of_getElem? (i := 431) rfl) (by decide +kernel)
set_option maxRecDepth 1000000 in
theorem wd_432 : (Jvm.Cond.code ({ cls := "EchoLine", name := "restore", desc := "()I" } : Jvm.MethodName) prog_1_method_12_code (1 : Nat) (Option.some Jvm.ClassFile.FieldType.int)) ∈ WG := xWG (List.mem_of_getElem? (i := 432) rfl) (by decide +kernel)
theorem ck_L_39 : xCal RL 39 RX5 yX5_restore cX5_restore 1 (some .int) 0 := ⟨⟨wd_429, wd_430, wd_431, wd_21, wd_432⟩, rfl, by decide +kernel, by decide +kernel, by decide +kernel⟩
set_option maxRecDepth 1000000 in
theorem wd_577 : (Jvm.Cond.methodLink "EchoLineLaw" (42 : Nat) ({ cls := "EchoLine", name := "said", desc := "(II)I" } : Jvm.MethodName)) ∈ WG := xWG (List.mem_of_getElem? (i := 577) rfl) (by decide +kernel)
set_option maxRecDepth 1000000 in
theorem wd_578 : (Jvm.Cond.instanceMethod ({ cls := "EchoLine", name := "said", desc := "(II)I" } : Jvm.MethodName)) ∈ WG := xWG (List.mem_of_getElem? (i := 578) rfl) (by decide +kernel)
set_option maxRecDepth 1000000 in
theorem wd_579 : (Jvm.Cond.selects "EchoLine" ({ cls := "EchoLine", name := "said", desc := "(II)I" } : Jvm.MethodName) ({ cls := "EchoLine", name := "said", desc := "(II)I" } : Jvm.MethodName)) ∈ WG := xWG (List.mem_of_getElem? (i := 579) rfl) (by decide +kernel)
set_option maxRecDepth 1000000 in
theorem wd_580 : (Jvm.Cond.code ({ cls := "EchoLine", name := "said", desc := "(II)I" } : Jvm.MethodName) prog_1_method_13_code (3 : Nat) (Option.some Jvm.ClassFile.FieldType.int)) ∈ WG := xWG (List.mem_of_getElem? (i := 580) rfl) (by decide +kernel)
theorem ck_L_42 : xCal RL 42 RX5 yX5_said cX5_said 3 (some .int) 2 := ⟨⟨wd_577, wd_578, wd_579, wd_21, wd_580⟩, rfl, by decide +kernel, by decide +kernel, by decide +kernel⟩
set_option maxRecDepth 1000000 in
theorem wd_584 : (Jvm.Cond.methodLink "EchoLineLaw" (45 : Nat) ({ cls := "EchoLine", name := "comes", desc := "(II)I" } : Jvm.MethodName)) ∈ WG := xWG (List.mem_of_getElem? (i := 584) rfl) (by decide +kernel)
set_option maxRecDepth 1000000 in
theorem wd_585 : (Jvm.Cond.instanceMethod ({ cls := "EchoLine", name := "comes", desc := "(II)I" } : Jvm.MethodName)) ∈ WG := xWG (List.mem_of_getElem? (i := 585) rfl) (by decide +kernel)
set_option maxRecDepth 1000000 in
theorem wd_586 : (Jvm.Cond.selects "EchoLine" ({ cls := "EchoLine", name := "comes", desc := "(II)I" } : Jvm.MethodName) ({ cls := "EchoLine", name := "comes", desc := "(II)I" } : Jvm.MethodName)) ∈ WG := xWG (List.mem_of_getElem? (i := 586) rfl) (by decide +kernel)
set_option maxRecDepth 1000000 in
theorem wd_587 : (Jvm.Cond.code ({ cls := "EchoLine", name := "comes", desc := "(II)I" } : Jvm.MethodName) prog_1_method_14_code (3 : Nat) (Option.some Jvm.ClassFile.FieldType.int)) ∈ WG := xWG (List.mem_of_getElem? (i := 587) rfl) (by decide +kernel)
theorem ck_L_45 : xCal RL 45 RX5 yX5_comes cX5_comes 3 (some .int) 2 := ⟨⟨wd_584, wd_585, wd_586, wd_21, wd_587⟩, rfl, by decide +kernel, by decide +kernel, by decide +kernel⟩
set_option maxRecDepth 1000000 in
theorem wd_449 : (Jvm.Cond.methodLink "EchoLineLaw" (48 : Nat) ({ cls := "EchoLine", name := "heard", desc := "(III)I" } : Jvm.MethodName)) ∈ WG := xWG (List.mem_of_getElem? (i := 449) rfl) (by decide +kernel)
set_option maxRecDepth 1000000 in
theorem wd_450 : (Jvm.Cond.instanceMethod ({ cls := "EchoLine", name := "heard", desc := "(III)I" } : Jvm.MethodName)) ∈ WG := xWG (List.mem_of_getElem? (i := 450) rfl) (by decide +kernel)
set_option maxRecDepth 1000000 in
theorem wd_451 : (Jvm.Cond.selects "EchoLine" ({ cls := "EchoLine", name := "heard", desc := "(III)I" } : Jvm.MethodName) ({ cls := "EchoLine", name := "heard", desc := "(III)I" } : Jvm.MethodName)) ∈ WG := xWG (List.mem_of_getElem? (i := 451) rfl) (by decide +kernel)
set_option maxRecDepth 1000000 in
theorem wd_452 : (Jvm.Cond.code ({ cls := "EchoLine", name := "heard", desc := "(III)I" } : Jvm.MethodName) prog_1_method_15_code (4 : Nat) (Option.some Jvm.ClassFile.FieldType.int)) ∈ WG := xWG (List.mem_of_getElem? (i := 452) rfl) (by decide +kernel)
theorem ck_L_48 : xCal RL 48 RX5 yX5_heard cX5_heard 4 (some .int) 3 := ⟨⟨wd_449, wd_450, wd_451, wd_21, wd_452⟩, rfl, by decide +kernel, by decide +kernel, by decide +kernel⟩
set_option maxRecDepth 1000000 in
theorem wd_605 : (Jvm.Cond.methodLink "EchoLineLaw" (51 : Nat) ({ cls := "EchoLine", name := "speaker", desc := "(II)I" } : Jvm.MethodName)) ∈ WG := xWG (List.mem_of_getElem? (i := 605) rfl) (by decide +kernel)
set_option maxRecDepth 1000000 in
theorem wd_606 : (Jvm.Cond.instanceMethod ({ cls := "EchoLine", name := "speaker", desc := "(II)I" } : Jvm.MethodName)) ∈ WG := xWG (List.mem_of_getElem? (i := 606) rfl) (by decide +kernel)
set_option maxRecDepth 1000000 in
theorem wd_607 : (Jvm.Cond.selects "EchoLine" ({ cls := "EchoLine", name := "speaker", desc := "(II)I" } : Jvm.MethodName) ({ cls := "EchoLine", name := "speaker", desc := "(II)I" } : Jvm.MethodName)) ∈ WG := xWG (List.mem_of_getElem? (i := 607) rfl) (by decide +kernel)
set_option maxRecDepth 1000000 in
theorem wd_608 : (Jvm.Cond.code ({ cls := "EchoLine", name := "speaker", desc := "(II)I" } : Jvm.MethodName) prog_1_method_16_code (3 : Nat) (Option.some Jvm.ClassFile.FieldType.int)) ∈ WG := xWG (List.mem_of_getElem? (i := 608) rfl) (by decide +kernel)
theorem ck_L_51 : xCal RL 51 RX5 yX5_speaker cX5_speaker 3 (some .int) 2 := ⟨⟨wd_605, wd_606, wd_607, wd_21, wd_608⟩, rfl, by decide +kernel, by decide +kernel, by decide +kernel⟩
set_option maxRecDepth 1000000 in
theorem wd_615 : (Jvm.Cond.methodLink "EchoLineLaw" (54 : Nat) ({ cls := "EchoLine", name := "message", desc := "(III)I" } : Jvm.MethodName)) ∈ WG := xWG (List.mem_of_getElem? (i := 615) rfl) (by decide +kernel)
set_option maxRecDepth 1000000 in
theorem wd_616 : (Jvm.Cond.instanceMethod ({ cls := "EchoLine", name := "message", desc := "(III)I" } : Jvm.MethodName)) ∈ WG := xWG (List.mem_of_getElem? (i := 616) rfl) (by decide +kernel)
set_option maxRecDepth 1000000 in
theorem wd_617 : (Jvm.Cond.selects "EchoLine" ({ cls := "EchoLine", name := "message", desc := "(III)I" } : Jvm.MethodName) ({ cls := "EchoLine", name := "message", desc := "(III)I" } : Jvm.MethodName)) ∈ WG := xWG (List.mem_of_getElem? (i := 617) rfl) (by decide +kernel)
set_option maxRecDepth 1000000 in
theorem wd_618 : (Jvm.Cond.code ({ cls := "EchoLine", name := "message", desc := "(III)I" } : Jvm.MethodName) prog_1_method_17_code (4 : Nat) (Option.some Jvm.ClassFile.FieldType.int)) ∈ WG := xWG (List.mem_of_getElem? (i := 618) rfl) (by decide +kernel)
theorem ck_L_54 : xCal RL 54 RX5 yX5_message cX5_message 4 (some .int) 3 := ⟨⟨wd_615, wd_616, wd_617, wd_21, wd_618⟩, rfl, by decide +kernel, by decide +kernel, by decide +kernel⟩
set_option maxRecDepth 1000000 in
theorem wd_498 : (Jvm.Cond.methodLink "EchoLineLaw" (57 : Nat) ({ cls := "EchoLine", name := "count", desc := "(I)I" } : Jvm.MethodName)) ∈ WG := xWG (List.mem_of_getElem? (i := 498) rfl) (by decide +kernel)
set_option maxRecDepth 1000000 in
theorem wd_499 : (Jvm.Cond.instanceMethod ({ cls := "EchoLine", name := "count", desc := "(I)I" } : Jvm.MethodName)) ∈ WG := xWG (List.mem_of_getElem? (i := 499) rfl) (by decide +kernel)
set_option maxRecDepth 1000000 in
theorem wd_500 : (Jvm.Cond.selects "EchoLine" ({ cls := "EchoLine", name := "count", desc := "(I)I" } : Jvm.MethodName) ({ cls := "EchoLine", name := "count", desc := "(I)I" } : Jvm.MethodName)) ∈ WG := xWG (List.mem_of_getElem? (i := 500) rfl) (by decide +kernel)
set_option maxRecDepth 1000000 in
theorem wd_501 : (Jvm.Cond.code ({ cls := "EchoLine", name := "count", desc := "(I)I" } : Jvm.MethodName) prog_1_method_18_code (2 : Nat) (Option.some Jvm.ClassFile.FieldType.int)) ∈ WG := xWG (List.mem_of_getElem? (i := 501) rfl) (by decide +kernel)
theorem ck_L_57 : xCal RL 57 RX5 yX5_count cX5_count 2 (some .int) 1 := ⟨⟨wd_498, wd_499, wd_500, wd_21, wd_501⟩, rfl, by decide +kernel, by decide +kernel, by decide +kernel⟩
set_option maxRecDepth 1000000 in
theorem wd_591 : (Jvm.Cond.methodLink "EchoLineLaw" (60 : Nat) ({ cls := "EchoLine", name := "whyNot", desc := "(II)I" } : Jvm.MethodName)) ∈ WG := xWG (List.mem_of_getElem? (i := 591) rfl) (by decide +kernel)
set_option maxRecDepth 1000000 in
theorem wd_592 : (Jvm.Cond.instanceMethod ({ cls := "EchoLine", name := "whyNot", desc := "(II)I" } : Jvm.MethodName)) ∈ WG := xWG (List.mem_of_getElem? (i := 592) rfl) (by decide +kernel)
set_option maxRecDepth 1000000 in
theorem wd_593 : (Jvm.Cond.selects "EchoLine" ({ cls := "EchoLine", name := "whyNot", desc := "(II)I" } : Jvm.MethodName) ({ cls := "EchoLine", name := "whyNot", desc := "(II)I" } : Jvm.MethodName)) ∈ WG := xWG (List.mem_of_getElem? (i := 593) rfl) (by decide +kernel)
set_option maxRecDepth 1000000 in
theorem wd_594 : (Jvm.Cond.code ({ cls := "EchoLine", name := "whyNot", desc := "(II)I" } : Jvm.MethodName) prog_1_method_19_code (3 : Nat) (Option.some Jvm.ClassFile.FieldType.int)) ∈ WG := xWG (List.mem_of_getElem? (i := 594) rfl) (by decide +kernel)
theorem ck_L_60 : xCal RL 60 RX5 yX5_whyNot cX5_whyNot 3 (some .int) 2 := ⟨⟨wd_591, wd_592, wd_593, wd_21, wd_594⟩, rfl, by decide +kernel, by decide +kernel, by decide +kernel⟩
set_option maxRecDepth 1000000 in
theorem wd_505 : (Jvm.Cond.methodLink "EchoLineLaw" (63 : Nat) ({ cls := "EchoLine", name := "ifSilent", desc := "(I)I" } : Jvm.MethodName)) ∈ WG := xWG (List.mem_of_getElem? (i := 505) rfl) (by decide +kernel)
set_option maxRecDepth 1000000 in
theorem wd_506 : (Jvm.Cond.instanceMethod ({ cls := "EchoLine", name := "ifSilent", desc := "(I)I" } : Jvm.MethodName)) ∈ WG := xWG (List.mem_of_getElem? (i := 506) rfl) (by decide +kernel)
set_option maxRecDepth 1000000 in
theorem wd_507 : (Jvm.Cond.selects "EchoLine" ({ cls := "EchoLine", name := "ifSilent", desc := "(I)I" } : Jvm.MethodName) ({ cls := "EchoLine", name := "ifSilent", desc := "(I)I" } : Jvm.MethodName)) ∈ WG := xWG (List.mem_of_getElem? (i := 507) rfl) (by decide +kernel)
set_option maxRecDepth 1000000 in
theorem wd_508 : (Jvm.Cond.code ({ cls := "EchoLine", name := "ifSilent", desc := "(I)I" } : Jvm.MethodName) prog_1_method_20_code (2 : Nat) (Option.some Jvm.ClassFile.FieldType.int)) ∈ WG := xWG (List.mem_of_getElem? (i := 508) rfl) (by decide +kernel)
theorem ck_L_63 : xCal RL 63 RX5 yX5_ifSilent cX5_ifSilent 2 (some .int) 1 := ⟨⟨wd_505, wd_506, wd_507, wd_21, wd_508⟩, rfl, by decide +kernel, by decide +kernel, by decide +kernel⟩
set_option maxRecDepth 1000000 in
theorem wd_598 : (Jvm.Cond.methodLink "EchoLineLaw" (66 : Nat) ({ cls := "EchoLine", name := "heardIn", desc := "(II)I" } : Jvm.MethodName)) ∈ WG := xWG (List.mem_of_getElem? (i := 598) rfl) (by decide +kernel)
set_option maxRecDepth 1000000 in
theorem wd_599 : (Jvm.Cond.instanceMethod ({ cls := "EchoLine", name := "heardIn", desc := "(II)I" } : Jvm.MethodName)) ∈ WG := xWG (List.mem_of_getElem? (i := 599) rfl) (by decide +kernel)
set_option maxRecDepth 1000000 in
theorem wd_600 : (Jvm.Cond.selects "EchoLine" ({ cls := "EchoLine", name := "heardIn", desc := "(II)I" } : Jvm.MethodName) ({ cls := "EchoLine", name := "heardIn", desc := "(II)I" } : Jvm.MethodName)) ∈ WG := xWG (List.mem_of_getElem? (i := 600) rfl) (by decide +kernel)
set_option maxRecDepth 1000000 in
theorem wd_601 : (Jvm.Cond.code ({ cls := "EchoLine", name := "heardIn", desc := "(II)I" } : Jvm.MethodName) prog_1_method_21_code (3 : Nat) (Option.some Jvm.ClassFile.FieldType.int)) ∈ WG := xWG (List.mem_of_getElem? (i := 601) rfl) (by decide +kernel)
theorem ck_L_66 : xCal RL 66 RX5 yX5_heardIn cX5_heardIn 3 (some .int) 2 := ⟨⟨wd_598, wd_599, wd_600, wd_21, wd_601⟩, rfl, by decide +kernel, by decide +kernel, by decide +kernel⟩
set_option maxRecDepth 1000000 in
theorem wd_35 : (Jvm.Cond.classLink "EchoLineLaw" (10 : Nat) "EchoLine") ∈ WG := xWG (List.mem_of_getElem? (i := 35) rfl) (by decide +kernel)
set_option maxRecDepth 1000000 in
theorem wd_36 : (Jvm.Cond.instantiable "EchoLine" (5 : Nat)) ∈ WG := xWG (List.mem_of_getElem? (i := 36) rfl) (by decide +kernel)
set_option maxRecDepth 1000000 in
theorem wd_37 : (Jvm.Cond.methodLink "EchoLineLaw" (101 : Nat) ({ cls := "EchoLine", name := "<init>", desc := "()V" } : Jvm.MethodName)) ∈ WG := xWG (List.mem_of_getElem? (i := 37) rfl) (by decide +kernel)
set_option maxRecDepth 1000000 in
theorem wd_38 : (Jvm.Cond.instanceMethod ({ cls := "EchoLine", name := "<init>", desc := "()V" } : Jvm.MethodName)) ∈ WG := xWG (List.mem_of_getElem? (i := 38) rfl) (by decide +kernel)
set_option maxRecDepth 1000000 in
theorem wd_39 : (Jvm.Cond.code ({ cls := "EchoLine", name := "<init>", desc := "()V" } : Jvm.MethodName) prog_1_method_1_code (2 : Nat) (Option.none : Option Jvm.ClassFile.FieldType)) ∈ WG := xWG (List.mem_of_getElem? (i := 39) rfl) (by decide +kernel)
theorem ck_L_101 : xCaI RL 101 yX5_init cX5_init 2 0 := ⟨⟨wd_37, wd_38, wd_21, wd_39⟩, rfl, by decide +kernel, by decide +kernel, by decide +kernel⟩
set_option maxRecDepth 1000000 in
theorem wd_174 : (Jvm.Cond.methodLink "EchoLineLaw" (104 : Nat) ({ cls := "EchoLine", name := "bestSeat", desc := "()I" } : Jvm.MethodName)) ∈ WG := xWG (List.mem_of_getElem? (i := 174) rfl) (by decide +kernel)
set_option maxRecDepth 1000000 in
theorem wd_175 : (Jvm.Cond.instanceMethod ({ cls := "EchoLine", name := "bestSeat", desc := "()I" } : Jvm.MethodName)) ∈ WG := xWG (List.mem_of_getElem? (i := 175) rfl) (by decide +kernel)
set_option maxRecDepth 1000000 in
theorem wd_176 : (Jvm.Cond.selects "EchoLine" ({ cls := "EchoLine", name := "bestSeat", desc := "()I" } : Jvm.MethodName) ({ cls := "EchoLine", name := "bestSeat", desc := "()I" } : Jvm.MethodName)) ∈ WG := xWG (List.mem_of_getElem? (i := 176) rfl) (by decide +kernel)
set_option maxRecDepth 1000000 in
theorem wd_177 : (Jvm.Cond.code ({ cls := "EchoLine", name := "bestSeat", desc := "()I" } : Jvm.MethodName) prog_1_method_22_code (1 : Nat) (Option.some Jvm.ClassFile.FieldType.int)) ∈ WG := xWG (List.mem_of_getElem? (i := 177) rfl) (by decide +kernel)
theorem ck_L_104 : xCal RL 104 RX5 yX5_bestSeat cX5_bestSeat 1 (some .int) 0 := ⟨⟨wd_174, wd_175, wd_176, wd_21, wd_177⟩, rfl, by decide +kernel, by decide +kernel, by decide +kernel⟩
set_option maxRecDepth 1000000 in
theorem wd_336 : (Jvm.Cond.methodLink "EchoLineLaw" (107 : Nat) ({ cls := "EchoLineLaw", name := "cell", desc := "([II)I" } : Jvm.MethodName)) ∈ WG := xWG (List.mem_of_getElem? (i := 336) rfl) (by decide +kernel)
set_option maxRecDepth 1000000 in
theorem wd_337 : (Jvm.Cond.static ({ cls := "EchoLineLaw", name := "cell", desc := "([II)I" } : Jvm.MethodName)) ∈ WG := xWG (List.mem_of_getElem? (i := 337) rfl) (by decide +kernel)
set_option maxRecDepth 1000000 in
theorem wd_20 : (Jvm.Cond.initialized "EchoLineLaw") ∈ WG := xWG (List.mem_of_getElem? (i := 20) rfl) (by decide +kernel)
set_option maxRecDepth 1000000 in
theorem wd_338 : (Jvm.Cond.code ({ cls := "EchoLineLaw", name := "cell", desc := "([II)I" } : Jvm.MethodName) method_2_code (2 : Nat) (Option.some Jvm.ClassFile.FieldType.int)) ∈ WG := xWG (List.mem_of_getElem? (i := 338) rfl) (by decide +kernel)
theorem ck_L_107 : xCaS RL 107 yL_cell cL_cell 2 (some .int) 2 := ⟨⟨wd_336, wd_337, wd_20, wd_338⟩, by decide +kernel, by decide +kernel, by decide +kernel⟩
set_option maxRecDepth 1000000 in
theorem wd_207 : (Jvm.Cond.methodLink "EchoLineLaw" (111 : Nat) ({ cls := "EchoLine", name := "digest", desc := "()J" } : Jvm.MethodName)) ∈ WG := xWG (List.mem_of_getElem? (i := 207) rfl) (by decide +kernel)
set_option maxRecDepth 1000000 in
theorem wd_208 : (Jvm.Cond.instanceMethod ({ cls := "EchoLine", name := "digest", desc := "()J" } : Jvm.MethodName)) ∈ WG := xWG (List.mem_of_getElem? (i := 208) rfl) (by decide +kernel)
set_option maxRecDepth 1000000 in
theorem wd_209 : (Jvm.Cond.selects "EchoLine" ({ cls := "EchoLine", name := "digest", desc := "()J" } : Jvm.MethodName) ({ cls := "EchoLine", name := "digest", desc := "()J" } : Jvm.MethodName)) ∈ WG := xWG (List.mem_of_getElem? (i := 209) rfl) (by decide +kernel)
set_option maxRecDepth 1000000 in
theorem wd_210 : (Jvm.Cond.code ({ cls := "EchoLine", name := "digest", desc := "()J" } : Jvm.MethodName) prog_1_method_24_code (3 : Nat) (Option.some Jvm.ClassFile.FieldType.long)) ∈ WG := xWG (List.mem_of_getElem? (i := 210) rfl) (by decide +kernel)
theorem ck_L_111 : xCal RL 111 RX5 yX5_digest cX5_digest 3 (some .long) 0 := ⟨⟨wd_207, wd_208, wd_209, wd_21, wd_210⟩, rfl, by decide +kernel, by decide +kernel, by decide +kernel⟩
set_option maxRecDepth 1000000 in
theorem wd_509 : (Jvm.Cond.methodLink "EchoLineLaw" (117 : Nat) ({ cls := "EchoLineLaw", name := "acts", desc := "(LEchoLine;I)I" } : Jvm.MethodName)) ∈ WG := xWG (List.mem_of_getElem? (i := 509) rfl) (by decide +kernel)
set_option maxRecDepth 1000000 in
theorem wd_510 : (Jvm.Cond.static ({ cls := "EchoLineLaw", name := "acts", desc := "(LEchoLine;I)I" } : Jvm.MethodName)) ∈ WG := xWG (List.mem_of_getElem? (i := 510) rfl) (by decide +kernel)
set_option maxRecDepth 1000000 in
theorem wd_511 : (Jvm.Cond.code ({ cls := "EchoLineLaw", name := "acts", desc := "(LEchoLine;I)I" } : Jvm.MethodName) method_18_code (3 : Nat) (Option.some Jvm.ClassFile.FieldType.int)) ∈ WG := xWG (List.mem_of_getElem? (i := 511) rfl) (by decide +kernel)
theorem ck_L_117 : xCaS RL 117 yL_acts cL_acts 3 (some .int) 2 := ⟨⟨wd_509, wd_510, wd_20, wd_511⟩, by decide +kernel, by decide +kernel, by decide +kernel⟩
set_option maxRecDepth 1000000 in
theorem wd_619 : (Jvm.Cond.constant "EchoLineLaw" (120 : Nat) (-2000000 : Int32)) ∈ WG := xWG (List.mem_of_getElem? (i := 619) rfl) (by decide +kernel)
set_option maxRecDepth 1000000 in
theorem wd_571 : (Jvm.Cond.methodLink "EchoLineLaw" (121 : Nat) ({ cls := "EchoLineLaw", name := "hangs", desc := "(LEchoLine;)Z" } : Jvm.MethodName)) ∈ WG := xWG (List.mem_of_getElem? (i := 571) rfl) (by decide +kernel)
set_option maxRecDepth 1000000 in
theorem wd_572 : (Jvm.Cond.static ({ cls := "EchoLineLaw", name := "hangs", desc := "(LEchoLine;)Z" } : Jvm.MethodName)) ∈ WG := xWG (List.mem_of_getElem? (i := 572) rfl) (by decide +kernel)
set_option maxRecDepth 1000000 in
theorem wd_573 : (Jvm.Cond.code ({ cls := "EchoLineLaw", name := "hangs", desc := "(LEchoLine;)Z" } : Jvm.MethodName) method_19_code (15 : Nat) (Option.some Jvm.ClassFile.FieldType.boolean)) ∈ WG := xWG (List.mem_of_getElem? (i := 573) rfl) (by decide +kernel)
theorem ck_L_121 : xCaS RL 121 yL_hangs cL_hangs 15 (some .boolean) 1 := ⟨⟨wd_571, wd_572, wd_20, wd_573⟩, by decide +kernel, by decide +kernel, by decide +kernel⟩
set_option maxRecDepth 1000000 in
theorem wd_609 : (Jvm.Cond.methodLink "EchoLineLaw" (125 : Nat) ({ cls := "EchoLineLaw", name := "tells", desc := "(LEchoLine;II)Z" } : Jvm.MethodName)) ∈ WG := xWG (List.mem_of_getElem? (i := 609) rfl) (by decide +kernel)
set_option maxRecDepth 1000000 in
theorem wd_610 : (Jvm.Cond.static ({ cls := "EchoLineLaw", name := "tells", desc := "(LEchoLine;II)Z" } : Jvm.MethodName)) ∈ WG := xWG (List.mem_of_getElem? (i := 610) rfl) (by decide +kernel)
set_option maxRecDepth 1000000 in
theorem wd_611 : (Jvm.Cond.code ({ cls := "EchoLineLaw", name := "tells", desc := "(LEchoLine;II)Z" } : Jvm.MethodName) method_20_code (7 : Nat) (Option.some Jvm.ClassFile.FieldType.boolean)) ∈ WG := xWG (List.mem_of_getElem? (i := 611) rfl) (by decide +kernel)
theorem ck_L_125 : xCaS RL 125 yL_tells cL_tells 7 (some .boolean) 3 := ⟨⟨wd_609, wd_610, wd_20, wd_611⟩, by decide +kernel, by decide +kernel, by decide +kernel⟩
set_option maxRecDepth 1000000 in
theorem wd_163 : (Jvm.Cond.methodLink "EchoLineLaw" (129 : Nat) ({ cls := "EchoLine", name := "keep", desc := "()I" } : Jvm.MethodName)) ∈ WG := xWG (List.mem_of_getElem? (i := 163) rfl) (by decide +kernel)
set_option maxRecDepth 1000000 in
theorem wd_164 : (Jvm.Cond.instanceMethod ({ cls := "EchoLine", name := "keep", desc := "()I" } : Jvm.MethodName)) ∈ WG := xWG (List.mem_of_getElem? (i := 164) rfl) (by decide +kernel)
set_option maxRecDepth 1000000 in
theorem wd_165 : (Jvm.Cond.selects "EchoLine" ({ cls := "EchoLine", name := "keep", desc := "()I" } : Jvm.MethodName) ({ cls := "EchoLine", name := "keep", desc := "()I" } : Jvm.MethodName)) ∈ WG := xWG (List.mem_of_getElem? (i := 165) rfl) (by decide +kernel)
set_option maxRecDepth 1000000 in
theorem wd_166 : (Jvm.Cond.code ({ cls := "EchoLine", name := "keep", desc := "()I" } : Jvm.MethodName) prog_1_method_11_code (1 : Nat) (Option.some Jvm.ClassFile.FieldType.int)) ∈ WG := xWG (List.mem_of_getElem? (i := 166) rfl) (by decide +kernel)
theorem ck_L_129 : xCal RL 129 RX5 yX5_keep cX5_keep 1 (some .int) 0 := ⟨⟨wd_163, wd_164, wd_165, wd_21, wd_166⟩, rfl, by decide +kernel, by decide +kernel, by decide +kernel⟩
set_option maxRecDepth 1000000 in
theorem wd_195 : (Jvm.Cond.methodLink "EchoLineLaw" (132 : Nat) ({ cls := "EchoLine", name := "heardShare", desc := "()D" } : Jvm.MethodName)) ∈ WG := xWG (List.mem_of_getElem? (i := 195) rfl) (by decide +kernel)
set_option maxRecDepth 1000000 in
theorem wd_196 : (Jvm.Cond.instanceMethod ({ cls := "EchoLine", name := "heardShare", desc := "()D" } : Jvm.MethodName)) ∈ WG := xWG (List.mem_of_getElem? (i := 196) rfl) (by decide +kernel)
set_option maxRecDepth 1000000 in
theorem wd_197 : (Jvm.Cond.selects "EchoLine" ({ cls := "EchoLine", name := "heardShare", desc := "()D" } : Jvm.MethodName) ({ cls := "EchoLine", name := "heardShare", desc := "()D" } : Jvm.MethodName)) ∈ WG := xWG (List.mem_of_getElem? (i := 197) rfl) (by decide +kernel)
set_option maxRecDepth 1000000 in
theorem wd_198 : (Jvm.Cond.code ({ cls := "EchoLine", name := "heardShare", desc := "()D" } : Jvm.MethodName) prog_1_method_23_code (1 : Nat) (Option.some Jvm.ClassFile.FieldType.double)) ∈ WG := xWG (List.mem_of_getElem? (i := 198) rfl) (by decide +kernel)
theorem ck_L_132 : xCal RL 132 RX5 yX5_heardShare cX5_heardShare 1 (some .double) 0 := ⟨⟨wd_195, wd_196, wd_197, wd_21, wd_198⟩, rfl, by decide +kernel, by decide +kernel, by decide +kernel⟩
set_option maxRecDepth 100000 in
theorem tw_59a : ∀ w ∈ (vx_atS RX5 59 "java/lang/IllegalStateException" ["java/lang/RuntimeException", "java/lang/Exception"]).filter goodWord, w ∈ WG := by decide +kernel
set_option maxRecDepth 100000 in
theorem tw_59b : ∀ w ∈ (vx_atS RX5 59 "java/lang/IllegalStateException" ["java/lang/RuntimeException", "java/lang/Exception"]).filter (fun w => !goodWord w), w ∈ WN := by decide +kernel
set_option maxRecDepth 100000 in
theorem tw_59c : ∀ w ∈ Cond.classLink RX5 55 "java/lang/IllegalStateException" :: Cond.initialized "java/lang/IllegalStateException" :: vx_atS RX5 59 "java/lang/IllegalStateException" ["java/lang/RuntimeException", "java/lang/Exception"], vx_ot w = true := by decide +kernel
set_option maxRecDepth 1000000 in
theorem wd_353 : (Jvm.Cond.classLink "EchoLine" (55 : Nat) "java/lang/IllegalStateException") ∈ WG := xWG (List.mem_of_getElem? (i := 353) rfl) (by decide +kernel)
set_option maxRecDepth 1000000 in
theorem wd_29 : (Jvm.Cond.initialized "java/lang/IllegalStateException") ∈ WG := xWG (List.mem_of_getElem? (i := 29) rfl) (by decide +kernel)
theorem tk_55_57_59 : xThr RX5 55 57 59 "java/lang/IllegalStateException" "no more words, or no more beats" := ⟨rfl, by decide +kernel, ⟨wd_353, wd_29⟩, by decide +kernel, tw_59a, tw_59b, tw_59c⟩
theorem tk_55_73_59 : xThr RX5 55 73 59 "java/lang/IllegalStateException" "the beat would be above the last one" := ⟨rfl, by decide +kernel, ⟨wd_353, wd_29⟩, by decide +kernel, tw_59a, tw_59b, tw_59c⟩
set_option maxRecDepth 100000 in
theorem tw_90a : ∀ w ∈ (vx_atS RX5 90 "java/lang/IndexOutOfBoundsException" ["java/lang/RuntimeException", "java/lang/Exception"]).filter goodWord, w ∈ WG := by decide +kernel
set_option maxRecDepth 100000 in
theorem tw_90b : ∀ w ∈ (vx_atS RX5 90 "java/lang/IndexOutOfBoundsException" ["java/lang/RuntimeException", "java/lang/Exception"]).filter (fun w => !goodWord w), w ∈ WN := by decide +kernel
set_option maxRecDepth 100000 in
theorem tw_90c : ∀ w ∈ Cond.classLink RX5 86 "java/lang/IndexOutOfBoundsException" :: Cond.initialized "java/lang/IndexOutOfBoundsException" :: vx_atS RX5 90 "java/lang/IndexOutOfBoundsException" ["java/lang/RuntimeException", "java/lang/Exception"], vx_ot w = true := by decide +kernel
set_option maxRecDepth 1000000 in
theorem wd_459 : (Jvm.Cond.classLink "EchoLine" (86 : Nat) "java/lang/IndexOutOfBoundsException") ∈ WG := xWG (List.mem_of_getElem? (i := 459) rfl) (by decide +kernel)
set_option maxRecDepth 1000000 in
theorem wd_34 : (Jvm.Cond.initialized "java/lang/IndexOutOfBoundsException") ∈ WG := xWG (List.mem_of_getElem? (i := 34) rfl) (by decide +kernel)
theorem tk_86_88_90 : xThr RX5 86 88 90 "java/lang/IndexOutOfBoundsException" "no such setting" := ⟨rfl, by decide +kernel, ⟨wd_459, wd_34⟩, by decide +kernel, tw_90a, tw_90b, tw_90c⟩
theorem tk_55_126_59 : xThr RX5 55 126 59 "java/lang/IllegalStateException" "no saved state" := ⟨rfl, by decide +kernel, ⟨wd_353, wd_29⟩, by decide +kernel, tw_59a, tw_59b, tw_59c⟩
theorem tk_55_140_59 : xThr RX5 55 140 59 "java/lang/IllegalStateException" "no snapshot" := ⟨rfl, by decide +kernel, ⟨wd_353, wd_29⟩, by decide +kernel, tw_59a, tw_59b, tw_59c⟩
theorem tk_86_221_90 : xThr RX5 86 221 90 "java/lang/IndexOutOfBoundsException" "no such seat" := ⟨rfl, by decide +kernel, ⟨wd_459, wd_34⟩, by decide +kernel, tw_90a, tw_90b, tw_90c⟩
set_option maxRecDepth 100000 in
theorem tw_227a : ∀ w ∈ (vx_atS RX5 227 "java/lang/IllegalArgumentException" ["java/lang/RuntimeException", "java/lang/Exception"]).filter goodWord, w ∈ WG := by decide +kernel
set_option maxRecDepth 100000 in
theorem tw_227b : ∀ w ∈ (vx_atS RX5 227 "java/lang/IllegalArgumentException" ["java/lang/RuntimeException", "java/lang/Exception"]).filter (fun w => !goodWord w), w ∈ WN := by decide +kernel
set_option maxRecDepth 100000 in
theorem tw_227c : ∀ w ∈ Cond.classLink RX5 223 "java/lang/IllegalArgumentException" :: Cond.initialized "java/lang/IllegalArgumentException" :: vx_atS RX5 227 "java/lang/IllegalArgumentException" ["java/lang/RuntimeException", "java/lang/Exception"], vx_ot w = true := by decide +kernel
set_option maxRecDepth 1000000 in
theorem wd_478 : (Jvm.Cond.classLink "EchoLine" (223 : Nat) "java/lang/IllegalArgumentException") ∈ WG := xWG (List.mem_of_getElem? (i := 478) rfl) (by decide +kernel)
set_option maxRecDepth 1000000 in
theorem wd_33 : (Jvm.Cond.initialized "java/lang/IllegalArgumentException") ∈ WG := xWG (List.mem_of_getElem? (i := 33) rfl) (by decide +kernel)
theorem tk_223_225_227 : xThr RX5 223 225 227 "java/lang/IllegalArgumentException" "out of range, or not a complete dialogue" := ⟨rfl, by decide +kernel, ⟨wd_478, wd_33⟩, by decide +kernel, tw_227a, tw_227b, tw_227c⟩
abbrev rm_X0_init : Room := { frames := 1, cells := 28, slots := 5687, locals := 20 }
abbrev rm_X0_become : Room := { frames := 1, cells := 0, slots := 0, locals := 50 }
abbrev rm_X0_canSpeak : Room := { frames := 0, cells := 0, slots := 0, locals := 0 }
abbrev rm_X0_speak : Room := { frames := 2, cells := 0, slots := 0, locals := 50 }
abbrev rm_X0_canRest : Room := { frames := 0, cells := 0, slots := 0, locals := 0 }
abbrev rm_X0_rest : Room := { frames := 2, cells := 0, slots := 0, locals := 50 }
abbrev rm_X0_endBeat : Room := { frames := 1, cells := 0, slots := 0, locals := 28 }
abbrev rm_X0_delayBetween : Room := { frames := 1, cells := 0, slots := 0, locals := 21 }
abbrev rm_X0_secondLast : Room := { frames := 0, cells := 0, slots := 0, locals := 0 }
abbrev rm_X0_messagePlace : Room := { frames := 0, cells := 0, slots := 0, locals := 0 }
abbrev rm_X1_init : Room := { frames := 1, cells := 0, slots := 0, locals := 20 }
abbrev rm_X1_take : Room := { frames := 0, cells := 0, slots := 0, locals := 0 }
abbrev rm_X1_bitsOf : Room := { frames := 0, cells := 0, slots := 0, locals := 0 }
abbrev rm_X2_init : Room := { frames := 1, cells := 1, slots := 6, locals := 20 }
abbrev rm_X2_save : Room := { frames := 2, cells := 29, slots := 5699, locals := 72 }
abbrev rm_X2_dropOldest : Room := { frames := 0, cells := 0, slots := 0, locals := 0 }
abbrev rm_X2_latest : Room := { frames := 0, cells := 0, slots := 0, locals := 0 }
abbrev rm_X2_dropLatest : Room := { frames := 0, cells := 0, slots := 0, locals := 0 }
abbrev rm_X3_init : Room := { frames := 1, cells := 0, slots := 0, locals := 20 }
abbrev rm_X3_ofWord : Room := { frames := 1, cells := 0, slots := 0, locals := 24 }
abbrev rm_X3_maskOf : Room := { frames := 0, cells := 0, slots := 0, locals := 0 }
abbrev rm_X3_ofBeat : Room := { frames := 1, cells := 0, slots := 0, locals := 23 }
abbrev rm_X3_isRepeated : Room := { frames := 0, cells := 0, slots := 0, locals := 0 }
abbrev rm_X3_ofSpeaker : Room := { frames := 2, cells := 0, slots := 0, locals := 46 }
abbrev rm_X3_heardBeats : Room := { frames := 0, cells := 0, slots := 0, locals := 0 }
abbrev rm_X3_heardWordsByBeats : Room := { frames := 0, cells := 0, slots := 0, locals := 0 }
abbrev rm_X3_heardWordsByWords : Room := { frames := 0, cells := 0, slots := 0, locals := 0 }
abbrev rm_X3_repeatedBeats : Room := { frames := 1, cells := 0, slots := 0, locals := 23 }
abbrev rm_X3_gaps : Room := { frames := 0, cells := 0, slots := 0, locals := 0 }
abbrev rm_X3_wordsSaidBy : Room := { frames := 0, cells := 0, slots := 0, locals := 0 }
abbrev rm_X3_hearingOf : Room := { frames := 1, cells := 0, slots := 0, locals := 21 }
abbrev rm_X3_ofAll : Room := { frames := 4, cells := 0, slots := 0, locals := 97 }
abbrev rm_X3_wordsHeardByMask : Room := { frames := 1, cells := 0, slots := 0, locals := 24 }
abbrev rm_X3_messages : Room := { frames := 0, cells := 0, slots := 0, locals := 0 }
abbrev rm_X3_messagesHeardWhole : Room := { frames := 3, cells := 0, slots := 0, locals := 74 }
abbrev rm_X3_allHeardWhole : Room := { frames := 2, cells := 0, slots := 0, locals := 51 }
abbrev rm_X3_whyUnheard : Room := { frames := 0, cells := 0, slots := 0, locals := 0 }
abbrev rm_X3_silentBeatsUntilHeard : Room := { frames := 1, cells := 0, slots := 0, locals := 28 }
abbrev rm_X3_bestPlace : Room := { frames := 2, cells := 0, slots := 0, locals := 46 }
abbrev rm_X3_share : Room := { frames := 1, cells := 0, slots := 0, locals := 23 }
abbrev rm_X4_init : Room := { frames := 1, cells := 1, slots := 60, locals := 20 }
abbrev rm_X5_init : Room := { frames := 2, cells := 34, slots := 5770, locals := 41 }
abbrev rm_X5_say : Room := { frames := 7, cells := 32, slots := 5717, locals := 102 }
abbrev rm_X5_pass : Room := { frames := 7, cells := 31, slots := 5711, locals := 102 }
abbrev rm_X5_wall : Room := { frames := 7, cells := 31, slots := 5711, locals := 102 }
abbrev rm_X5_set : Room := { frames := 7, cells := 31, slots := 5711, locals := 102 }
abbrev rm_X5_undo : Room := { frames := 6, cells := 1, slots := 6, locals := 82 }
abbrev rm_X5_keep : Room := { frames := 2, cells := 29, slots := 5699, locals := 72 }
abbrev rm_X5_restore : Room := { frames := 6, cells := 30, slots := 5705, locals := 94 }
abbrev rm_X5_said : Room := { frames := 7, cells := 1, slots := 6, locals := 102 }
abbrev rm_X5_comes : Room := { frames := 7, cells := 2, slots := 12, locals := 102 }
abbrev rm_X5_heard : Room := { frames := 7, cells := 2, slots := 12, locals := 102 }
abbrev rm_X5_speaker : Room := { frames := 7, cells := 2, slots := 12, locals := 102 }
abbrev rm_X5_message : Room := { frames := 7, cells := 3, slots := 18, locals := 102 }
abbrev rm_X5_count : Room := { frames := 7, cells := 1, slots := 6, locals := 139 }
abbrev rm_X5_whyNot : Room := { frames := 7, cells := 2, slots := 12, locals := 102 }
abbrev rm_X5_ifSilent : Room := { frames := 7, cells := 1, slots := 6, locals := 102 }
abbrev rm_X5_heardIn : Room := { frames := 7, cells := 2, slots := 12, locals := 102 }
abbrev rm_X5_bestSeat : Room := { frames := 3, cells := 0, slots := 0, locals := 74 }
abbrev rm_X5_heardShare : Room := { frames := 2, cells := 0, slots := 0, locals := 45 }
abbrev rm_X5_digest : Room := { frames := 6, cells := 1, slots := 1, locals := 139 }
abbrev rm_X5_takeSpeakers : Room := { frames := 3, cells := 0, slots := 0, locals := 68 }
abbrev rm_X5_takeLatestWords : Room := { frames := 2, cells := 0, slots := 0, locals := 46 }
abbrev rm_X5_takeLatestBeats : Room := { frames := 2, cells := 0, slots := 0, locals := 47 }
abbrev rm_X5_takeMessages : Room := { frames := 2, cells := 0, slots := 0, locals := 51 }
abbrev rm_X5_total : Room := { frames := 5, cells := 0, slots := 0, locals := 118 }
abbrev rm_X5_isWithin : Room := { frames := 0, cells := 0, slots := 0, locals := 0 }
abbrev rm_X5_requireSeat : Room := { frames := 6, cells := 1, slots := 6, locals := 82 }
abbrev rm_X5_require : Room := { frames := 6, cells := 1, slots := 6, locals := 82 }
abbrev rm_L_cell : Room := { frames := 0, cells := 0, slots := 0, locals := 0 }
abbrev rm_L_say : Room := { frames := 8, cells := 32, slots := 5717, locals := 125 }
abbrev rm_L_pass : Room := { frames := 8, cells := 31, slots := 5711, locals := 123 }
abbrev rm_L_wall : Room := { frames := 8, cells := 31, slots := 5711, locals := 125 }
abbrev rm_L_set : Room := { frames := 8, cells := 31, slots := 5711, locals := 125 }
abbrev rm_L_undo : Room := { frames := 7, cells := 1, slots := 6, locals := 103 }
abbrev rm_L_restore : Room := { frames := 7, cells := 30, slots := 5705, locals := 114 }
abbrev rm_L_said : Room := { frames := 8, cells := 1, slots := 6, locals := 124 }
abbrev rm_L_comes : Room := { frames := 8, cells := 2, slots := 12, locals := 124 }
abbrev rm_L_heard : Room := { frames := 8, cells := 2, slots := 12, locals := 125 }
abbrev rm_L_speaker : Room := { frames := 8, cells := 2, slots := 12, locals := 124 }
abbrev rm_L_message : Room := { frames := 8, cells := 3, slots := 18, locals := 125 }
abbrev rm_L_count : Room := { frames := 8, cells := 1, slots := 6, locals := 160 }
abbrev rm_L_whyNot : Room := { frames := 8, cells := 2, slots := 12, locals := 124 }
abbrev rm_L_ifSilent : Room := { frames := 8, cells := 1, slots := 6, locals := 123 }
abbrev rm_L_heardIn : Room := { frames := 8, cells := 2, slots := 12, locals := 124 }
abbrev rm_L_acts : Room := { frames := 9, cells := 186, slots := 34266, locals := 149 }
abbrev rm_L_hangs : Room := { frames := 9, cells := 48, slots := 288, locals := 182 }
abbrev rm_L_tells : Room := { frames := 9, cells := 12, slots := 72, locals := 149 }
abbrev rm_L_law : Room := { frames := 10, cells := 465, slots := 63580, locals := 216 }
