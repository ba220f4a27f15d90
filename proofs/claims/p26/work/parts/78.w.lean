/-! ===== the law's wrappers ===== -/
theorem wL_0 : Cond.classLink RL 15 "java/lang/IndexOutOfBoundsException" ∈ WG := xWG (List.mem_of_getElem? (i := 447) (by decide +kernel)) (by decide +kernel)
theorem wC_0 : Cond.castable "java/lang/IndexOutOfBoundsException" "java/lang/IndexOutOfBoundsException" ∈ WN := xWN (List.mem_of_getElem? (i := 461) (by decide +kernel)) (by decide +kernel)
theorem wL_1 : Cond.classLink RL 18 "java/lang/IllegalArgumentException" ∈ WG := xWG (List.mem_of_getElem? (i := 448) (by decide +kernel)) (by decide +kernel)
theorem wC_1 : Cond.castable "java/lang/IllegalArgumentException" "java/lang/IllegalArgumentException" ∈ WN := xWN (List.mem_of_getElem? (i := 480) (by decide +kernel)) (by decide +kernel)
theorem wL_2 : Cond.classLink RL 21 "java/lang/IllegalStateException" ∈ WG := xWG (List.mem_of_getElem? (i := 344) (by decide +kernel)) (by decide +kernel)
theorem wC_2 : Cond.castable "java/lang/IllegalStateException" "java/lang/IllegalStateException" ∈ WN := xWN (List.mem_of_getElem? (i := 355) (by decide +kernel)) (by decide +kernel)
theorem wS_581 : (Jvm.Cond.methodLink "EchoLineLaw" (89 : Nat) ({ cls := "EchoLineLaw", name := "comes", desc := "(LEchoLine;II)I" } : Jvm.MethodName)) ∈ WG := xWG (List.mem_of_getElem? (i := 581) (by decide +kernel)) (by decide +kernel)
theorem wS_582 : (Jvm.Cond.static ({ cls := "EchoLineLaw", name := "comes", desc := "(LEchoLine;II)I" } : Jvm.MethodName)) ∈ WG := xWG (List.mem_of_getElem? (i := 582) (by decide +kernel)) (by decide +kernel)
theorem wS_20 : (Jvm.Cond.initialized "EchoLineLaw") ∈ WG := xWG (List.mem_of_getElem? (i := 20) (by decide +kernel)) (by decide +kernel)
theorem wS_583 : (Jvm.Cond.codeWith ({ cls := "EchoLineLaw", name := "comes", desc := "(LEchoLine;II)I" } : Jvm.MethodName) method_10_code (4 : Nat) (Option.some Jvm.ClassFile.FieldType.int) [((0 : Nat), (6 : Nat), (7 : Nat), (15 : Nat)), ((0 : Nat), (6 : Nat), (11 : Nat), (18 : Nat))]) ∈ WG := xWG (List.mem_of_getElem? (i := 583) (by decide +kernel)) (by decide +kernel)
theorem ckS_comes : yCaS RL 89 yL_comes cL_comes 4 (some .int) [(0, 6, 7, 15), (0, 6, 11, 18)] 3 := ⟨⟨wS_581, wS_582, wS_20, wS_583⟩, by decide +kernel, by decide +kernel, by decide +kernel⟩
theorem wS_495 : (Jvm.Cond.methodLink "EchoLineLaw" (85 : Nat) ({ cls := "EchoLineLaw", name := "count", desc := "(LEchoLine;I)I" } : Jvm.MethodName)) ∈ WG := xWG (List.mem_of_getElem? (i := 495) (by decide +kernel)) (by decide +kernel)
theorem wS_496 : (Jvm.Cond.static ({ cls := "EchoLineLaw", name := "count", desc := "(LEchoLine;I)I" } : Jvm.MethodName)) ∈ WG := xWG (List.mem_of_getElem? (i := 496) (by decide +kernel)) (by decide +kernel)
theorem wS_497 : (Jvm.Cond.codeWith ({ cls := "EchoLineLaw", name := "count", desc := "(LEchoLine;I)I" } : Jvm.MethodName) method_14_code (3 : Nat) (Option.some Jvm.ClassFile.FieldType.int) [((0 : Nat), (5 : Nat), (6 : Nat), (18 : Nat))]) ∈ WG := xWG (List.mem_of_getElem? (i := 497) (by decide +kernel)) (by decide +kernel)
theorem ckS_count : yCaS RL 85 yL_count cL_count 3 (some .int) [(0, 5, 6, 18)] 2 := ⟨⟨wS_495, wS_496, wS_20, wS_497⟩, by decide +kernel, by decide +kernel, by decide +kernel⟩
theorem wS_444 : (Jvm.Cond.methodLink "EchoLineLaw" (95 : Nat) ({ cls := "EchoLineLaw", name := "heard", desc := "(LEchoLine;III)I" } : Jvm.MethodName)) ∈ WG := xWG (List.mem_of_getElem? (i := 444) (by decide +kernel)) (by decide +kernel)
theorem wS_445 : (Jvm.Cond.static ({ cls := "EchoLineLaw", name := "heard", desc := "(LEchoLine;III)I" } : Jvm.MethodName)) ∈ WG := xWG (List.mem_of_getElem? (i := 445) (by decide +kernel)) (by decide +kernel)
theorem wS_446 : (Jvm.Cond.codeWith ({ cls := "EchoLineLaw", name := "heard", desc := "(LEchoLine;III)I" } : Jvm.MethodName) method_11_code (5 : Nat) (Option.some Jvm.ClassFile.FieldType.int) [((0 : Nat), (7 : Nat), (8 : Nat), (15 : Nat)), ((0 : Nat), (7 : Nat), (13 : Nat), (18 : Nat))]) ∈ WG := xWG (List.mem_of_getElem? (i := 446) (by decide +kernel)) (by decide +kernel)
theorem ckS_heard : yCaS RL 95 yL_heard cL_heard 5 (some .int) [(0, 7, 8, 15), (0, 7, 13, 18)] 4 := ⟨⟨wS_444, wS_445, wS_20, wS_446⟩, by decide +kernel, by decide +kernel, by decide +kernel⟩
theorem wS_595 : (Jvm.Cond.methodLink "EchoLineLaw" (93 : Nat) ({ cls := "EchoLineLaw", name := "heardIn", desc := "(LEchoLine;II)I" } : Jvm.MethodName)) ∈ WG := xWG (List.mem_of_getElem? (i := 595) (by decide +kernel)) (by decide +kernel)
theorem wS_596 : (Jvm.Cond.static ({ cls := "EchoLineLaw", name := "heardIn", desc := "(LEchoLine;II)I" } : Jvm.MethodName)) ∈ WG := xWG (List.mem_of_getElem? (i := 596) (by decide +kernel)) (by decide +kernel)
theorem wS_597 : (Jvm.Cond.codeWith ({ cls := "EchoLineLaw", name := "heardIn", desc := "(LEchoLine;II)I" } : Jvm.MethodName) method_17_code (4 : Nat) (Option.some Jvm.ClassFile.FieldType.int) [((0 : Nat), (6 : Nat), (7 : Nat), (15 : Nat)), ((0 : Nat), (6 : Nat), (11 : Nat), (18 : Nat))]) ∈ WG := xWG (List.mem_of_getElem? (i := 597) (by decide +kernel)) (by decide +kernel)
theorem ckS_heardIn : yCaS RL 93 yL_heardIn cL_heardIn 4 (some .int) [(0, 6, 7, 15), (0, 6, 11, 18)] 3 := ⟨⟨wS_595, wS_596, wS_20, wS_597⟩, by decide +kernel, by decide +kernel, by decide +kernel⟩
theorem wS_502 : (Jvm.Cond.methodLink "EchoLineLaw" (115 : Nat) ({ cls := "EchoLineLaw", name := "ifSilent", desc := "(LEchoLine;I)I" } : Jvm.MethodName)) ∈ WG := xWG (List.mem_of_getElem? (i := 502) (by decide +kernel)) (by decide +kernel)
theorem wS_503 : (Jvm.Cond.static ({ cls := "EchoLineLaw", name := "ifSilent", desc := "(LEchoLine;I)I" } : Jvm.MethodName)) ∈ WG := xWG (List.mem_of_getElem? (i := 503) (by decide +kernel)) (by decide +kernel)
theorem wS_504 : (Jvm.Cond.codeWith ({ cls := "EchoLineLaw", name := "ifSilent", desc := "(LEchoLine;I)I" } : Jvm.MethodName) method_16_code (3 : Nat) (Option.some Jvm.ClassFile.FieldType.int) [((0 : Nat), (5 : Nat), (6 : Nat), (15 : Nat))]) ∈ WG := xWG (List.mem_of_getElem? (i := 504) (by decide +kernel)) (by decide +kernel)
theorem ckS_ifSilent : yCaS RL 115 yL_ifSilent cL_ifSilent 3 (some .int) [(0, 5, 6, 15)] 2 := ⟨⟨wS_502, wS_503, wS_20, wS_504⟩, by decide +kernel, by decide +kernel, by decide +kernel⟩
theorem wS_612 : (Jvm.Cond.methodLink "EchoLineLaw" (99 : Nat) ({ cls := "EchoLineLaw", name := "message", desc := "(LEchoLine;III)I" } : Jvm.MethodName)) ∈ WG := xWG (List.mem_of_getElem? (i := 612) (by decide +kernel)) (by decide +kernel)
theorem wS_613 : (Jvm.Cond.static ({ cls := "EchoLineLaw", name := "message", desc := "(LEchoLine;III)I" } : Jvm.MethodName)) ∈ WG := xWG (List.mem_of_getElem? (i := 613) (by decide +kernel)) (by decide +kernel)
theorem wS_614 : (Jvm.Cond.codeWith ({ cls := "EchoLineLaw", name := "message", desc := "(LEchoLine;III)I" } : Jvm.MethodName) method_13_code (5 : Nat) (Option.some Jvm.ClassFile.FieldType.int) [((0 : Nat), (7 : Nat), (8 : Nat), (15 : Nat)), ((0 : Nat), (7 : Nat), (13 : Nat), (18 : Nat))]) ∈ WG := xWG (List.mem_of_getElem? (i := 614) (by decide +kernel)) (by decide +kernel)
theorem ckS_message : yCaS RL 99 yL_message cL_message 5 (some .int) [(0, 7, 8, 15), (0, 7, 13, 18)] 4 := ⟨⟨wS_612, wS_613, wS_20, wS_614⟩, by decide +kernel, by decide +kernel, by decide +kernel⟩
theorem wS_531 : (Jvm.Cond.methodLink "EchoLineLaw" (76 : Nat) ({ cls := "EchoLineLaw", name := "pass", desc := "(LEchoLine;I)I" } : Jvm.MethodName)) ∈ WG := xWG (List.mem_of_getElem? (i := 531) (by decide +kernel)) (by decide +kernel)
theorem wS_532 : (Jvm.Cond.static ({ cls := "EchoLineLaw", name := "pass", desc := "(LEchoLine;I)I" } : Jvm.MethodName)) ∈ WG := xWG (List.mem_of_getElem? (i := 532) (by decide +kernel)) (by decide +kernel)
theorem wS_533 : (Jvm.Cond.codeWith ({ cls := "EchoLineLaw", name := "pass", desc := "(LEchoLine;I)I" } : Jvm.MethodName) method_4_code (3 : Nat) (Option.some Jvm.ClassFile.FieldType.int) [((0 : Nat), (5 : Nat), (6 : Nat), (18 : Nat)), ((0 : Nat), (5 : Nat), (10 : Nat), (21 : Nat))]) ∈ WG := xWG (List.mem_of_getElem? (i := 533) (by decide +kernel)) (by decide +kernel)
theorem ckS_pass : yCaS RL 76 yL_pass cL_pass 3 (some .int) [(0, 5, 6, 18), (0, 5, 10, 21)] 2 := ⟨⟨wS_531, wS_532, wS_20, wS_533⟩, by decide +kernel, by decide +kernel, by decide +kernel⟩
theorem wS_426 : (Jvm.Cond.methodLink "EchoLineLaw" (79 : Nat) ({ cls := "EchoLineLaw", name := "restore", desc := "(LEchoLine;)I" } : Jvm.MethodName)) ∈ WG := xWG (List.mem_of_getElem? (i := 426) (by decide +kernel)) (by decide +kernel)
theorem wS_427 : (Jvm.Cond.static ({ cls := "EchoLineLaw", name := "restore", desc := "(LEchoLine;)I" } : Jvm.MethodName)) ∈ WG := xWG (List.mem_of_getElem? (i := 427) (by decide +kernel)) (by decide +kernel)
theorem wS_428 : (Jvm.Cond.codeWith ({ cls := "EchoLineLaw", name := "restore", desc := "(LEchoLine;)I" } : Jvm.MethodName) method_8_code (2 : Nat) (Option.some Jvm.ClassFile.FieldType.int) [((0 : Nat), (4 : Nat), (5 : Nat), (21 : Nat))]) ∈ WG := xWG (List.mem_of_getElem? (i := 428) (by decide +kernel)) (by decide +kernel)
theorem ckS_restore : yCaS RL 79 yL_restore cL_restore 2 (some .int) [(0, 4, 5, 21)] 1 := ⟨⟨wS_426, wS_427, wS_20, wS_428⟩, by decide +kernel, by decide +kernel, by decide +kernel⟩
theorem wS_574 : (Jvm.Cond.methodLink "EchoLineLaw" (87 : Nat) ({ cls := "EchoLineLaw", name := "said", desc := "(LEchoLine;II)I" } : Jvm.MethodName)) ∈ WG := xWG (List.mem_of_getElem? (i := 574) (by decide +kernel)) (by decide +kernel)
theorem wS_575 : (Jvm.Cond.static ({ cls := "EchoLineLaw", name := "said", desc := "(LEchoLine;II)I" } : Jvm.MethodName)) ∈ WG := xWG (List.mem_of_getElem? (i := 575) (by decide +kernel)) (by decide +kernel)
theorem wS_576 : (Jvm.Cond.codeWith ({ cls := "EchoLineLaw", name := "said", desc := "(LEchoLine;II)I" } : Jvm.MethodName) method_9_code (4 : Nat) (Option.some Jvm.ClassFile.FieldType.int) [((0 : Nat), (6 : Nat), (7 : Nat), (18 : Nat))]) ∈ WG := xWG (List.mem_of_getElem? (i := 576) (by decide +kernel)) (by decide +kernel)
theorem ckS_said : yCaS RL 87 yL_said cL_said 4 (some .int) [(0, 6, 7, 18)] 3 := ⟨⟨wS_574, wS_575, wS_20, wS_576⟩, by decide +kernel, by decide +kernel, by decide +kernel⟩
theorem wS_552 : (Jvm.Cond.methodLink "EchoLineLaw" (82 : Nat) ({ cls := "EchoLineLaw", name := "say", desc := "(LEchoLine;III)I" } : Jvm.MethodName)) ∈ WG := xWG (List.mem_of_getElem? (i := 552) (by decide +kernel)) (by decide +kernel)
theorem wS_553 : (Jvm.Cond.static ({ cls := "EchoLineLaw", name := "say", desc := "(LEchoLine;III)I" } : Jvm.MethodName)) ∈ WG := xWG (List.mem_of_getElem? (i := 553) (by decide +kernel)) (by decide +kernel)
theorem wS_554 : (Jvm.Cond.codeWith ({ cls := "EchoLineLaw", name := "say", desc := "(LEchoLine;III)I" } : Jvm.MethodName) method_3_code (5 : Nat) (Option.some Jvm.ClassFile.FieldType.int) [((0 : Nat), (7 : Nat), (8 : Nat), (15 : Nat)), ((0 : Nat), (7 : Nat), (13 : Nat), (18 : Nat)), ((0 : Nat), (7 : Nat), (18 : Nat), (21 : Nat))]) ∈ WG := xWG (List.mem_of_getElem? (i := 554) (by decide +kernel)) (by decide +kernel)
theorem ckS_say : yCaS RL 82 yL_say cL_say 5 (some .int) [(0, 7, 8, 15), (0, 7, 13, 18), (0, 7, 18, 21)] 4 := ⟨⟨wS_552, wS_553, wS_20, wS_554⟩, by decide +kernel, by decide +kernel, by decide +kernel⟩
theorem wS_519 : (Jvm.Cond.methodLink "EchoLineLaw" (74 : Nat) ({ cls := "EchoLineLaw", name := "set", desc := "(LEchoLine;II)I" } : Jvm.MethodName)) ∈ WG := xWG (List.mem_of_getElem? (i := 519) (by decide +kernel)) (by decide +kernel)
theorem wS_520 : (Jvm.Cond.static ({ cls := "EchoLineLaw", name := "set", desc := "(LEchoLine;II)I" } : Jvm.MethodName)) ∈ WG := xWG (List.mem_of_getElem? (i := 520) (by decide +kernel)) (by decide +kernel)
theorem wS_521 : (Jvm.Cond.codeWith ({ cls := "EchoLineLaw", name := "set", desc := "(LEchoLine;II)I" } : Jvm.MethodName) method_6_code (4 : Nat) (Option.some Jvm.ClassFile.FieldType.int) [((0 : Nat), (6 : Nat), (7 : Nat), (15 : Nat)), ((0 : Nat), (6 : Nat), (11 : Nat), (18 : Nat))]) ∈ WG := xWG (List.mem_of_getElem? (i := 521) (by decide +kernel)) (by decide +kernel)
theorem ckS_set : yCaS RL 74 yL_set cL_set 4 (some .int) [(0, 6, 7, 15), (0, 6, 11, 18)] 3 := ⟨⟨wS_519, wS_520, wS_20, wS_521⟩, by decide +kernel, by decide +kernel, by decide +kernel⟩
theorem wS_602 : (Jvm.Cond.methodLink "EchoLineLaw" (97 : Nat) ({ cls := "EchoLineLaw", name := "speaker", desc := "(LEchoLine;II)I" } : Jvm.MethodName)) ∈ WG := xWG (List.mem_of_getElem? (i := 602) (by decide +kernel)) (by decide +kernel)
theorem wS_603 : (Jvm.Cond.static ({ cls := "EchoLineLaw", name := "speaker", desc := "(LEchoLine;II)I" } : Jvm.MethodName)) ∈ WG := xWG (List.mem_of_getElem? (i := 603) (by decide +kernel)) (by decide +kernel)
theorem wS_604 : (Jvm.Cond.codeWith ({ cls := "EchoLineLaw", name := "speaker", desc := "(LEchoLine;II)I" } : Jvm.MethodName) method_12_code (4 : Nat) (Option.some Jvm.ClassFile.FieldType.int) [((0 : Nat), (6 : Nat), (7 : Nat), (15 : Nat)), ((0 : Nat), (6 : Nat), (11 : Nat), (18 : Nat))]) ∈ WG := xWG (List.mem_of_getElem? (i := 604) (by decide +kernel)) (by decide +kernel)
theorem ckS_speaker : yCaS RL 97 yL_speaker cL_speaker 4 (some .int) [(0, 6, 7, 15), (0, 6, 11, 18)] 3 := ⟨⟨wS_602, wS_603, wS_20, wS_604⟩, by decide +kernel, by decide +kernel, by decide +kernel⟩
theorem wS_341 : (Jvm.Cond.methodLink "EchoLineLaw" (102 : Nat) ({ cls := "EchoLineLaw", name := "undo", desc := "(LEchoLine;)I" } : Jvm.MethodName)) ∈ WG := xWG (List.mem_of_getElem? (i := 341) (by decide +kernel)) (by decide +kernel)
theorem wS_342 : (Jvm.Cond.static ({ cls := "EchoLineLaw", name := "undo", desc := "(LEchoLine;)I" } : Jvm.MethodName)) ∈ WG := xWG (List.mem_of_getElem? (i := 342) (by decide +kernel)) (by decide +kernel)
theorem wS_343 : (Jvm.Cond.codeWith ({ cls := "EchoLineLaw", name := "undo", desc := "(LEchoLine;)I" } : Jvm.MethodName) method_7_code (2 : Nat) (Option.some Jvm.ClassFile.FieldType.int) [((0 : Nat), (4 : Nat), (5 : Nat), (21 : Nat))]) ∈ WG := xWG (List.mem_of_getElem? (i := 343) (by decide +kernel)) (by decide +kernel)
theorem ckS_undo : yCaS RL 102 yL_undo cL_undo 2 (some .int) [(0, 4, 5, 21)] 1 := ⟨⟨wS_341, wS_342, wS_20, wS_343⟩, by decide +kernel, by decide +kernel, by decide +kernel⟩
theorem wS_512 : (Jvm.Cond.methodLink "EchoLineLaw" (69 : Nat) ({ cls := "EchoLineLaw", name := "wall", desc := "(LEchoLine;II)I" } : Jvm.MethodName)) ∈ WG := xWG (List.mem_of_getElem? (i := 512) (by decide +kernel)) (by decide +kernel)
theorem wS_513 : (Jvm.Cond.static ({ cls := "EchoLineLaw", name := "wall", desc := "(LEchoLine;II)I" } : Jvm.MethodName)) ∈ WG := xWG (List.mem_of_getElem? (i := 513) (by decide +kernel)) (by decide +kernel)
theorem wS_514 : (Jvm.Cond.codeWith ({ cls := "EchoLineLaw", name := "wall", desc := "(LEchoLine;II)I" } : Jvm.MethodName) method_5_code (4 : Nat) (Option.some Jvm.ClassFile.FieldType.int) [((0 : Nat), (6 : Nat), (7 : Nat), (15 : Nat)), ((0 : Nat), (6 : Nat), (11 : Nat), (18 : Nat))]) ∈ WG := xWG (List.mem_of_getElem? (i := 514) (by decide +kernel)) (by decide +kernel)
theorem ckS_wall : yCaS RL 69 yL_wall cL_wall 4 (some .int) [(0, 6, 7, 15), (0, 6, 11, 18)] 3 := ⟨⟨wS_512, wS_513, wS_20, wS_514⟩, by decide +kernel, by decide +kernel, by decide +kernel⟩
theorem wS_588 : (Jvm.Cond.methodLink "EchoLineLaw" (91 : Nat) ({ cls := "EchoLineLaw", name := "whyNot", desc := "(LEchoLine;II)I" } : Jvm.MethodName)) ∈ WG := xWG (List.mem_of_getElem? (i := 588) (by decide +kernel)) (by decide +kernel)
theorem wS_589 : (Jvm.Cond.static ({ cls := "EchoLineLaw", name := "whyNot", desc := "(LEchoLine;II)I" } : Jvm.MethodName)) ∈ WG := xWG (List.mem_of_getElem? (i := 589) (by decide +kernel)) (by decide +kernel)
theorem wS_590 : (Jvm.Cond.codeWith ({ cls := "EchoLineLaw", name := "whyNot", desc := "(LEchoLine;II)I" } : Jvm.MethodName) method_15_code (4 : Nat) (Option.some Jvm.ClassFile.FieldType.int) [((0 : Nat), (6 : Nat), (7 : Nat), (15 : Nat)), ((0 : Nat), (6 : Nat), (11 : Nat), (18 : Nat))]) ∈ WG := xWG (List.mem_of_getElem? (i := 590) (by decide +kernel)) (by decide +kernel)
theorem ckS_whyNot : yCaS RL 91 yL_whyNot cL_whyNot 4 (some .int) [(0, 6, 7, 15), (0, 6, 11, 18)] 3 := ⟨⟨wS_588, wS_589, wS_20, wS_590⟩, by decide +kernel, by decide +kernel, by decide +kernel⟩
theorem kL_7 : Cond.constant RL 7 (Int32.ofInt 48397) ∈ WG := by
  rw [show Int32.ofInt 48397 = (48397 : Int32) by decide +kernel]
  exact wd_339
theorem kL_8 : Cond.constant RL 8 (Int32.ofInt 2147483647) ∈ WG := by
  rw [show Int32.ofInt 2147483647 = (2147483647 : Int32) by decide +kernel]
  exact wd_340
theorem kL_17 : Cond.constant RL 17 (Int32.ofInt (-2000001)) ∈ WG := by
  rw [show Int32.ofInt (-2000001) = (-2000001 : Int32) by decide +kernel]
  exact wd_425
theorem kL_20 : Cond.constant RL 20 (Int32.ofInt (-2000002)) ∈ WG := by
  rw [show Int32.ofInt (-2000002) = (-2000002 : Int32) by decide +kernel]
  exact wd_494
theorem kL_23 : Cond.constant RL 23 (Int32.ofInt (-2000003)) ∈ WG := by
  rw [show Int32.ofInt (-2000003) = (-2000003 : Int32) by decide +kernel]
  exact wd_570
theorem kL_120 : Cond.constant RL 120 (Int32.ofInt (-2000000)) ∈ WG := by
  rw [show Int32.ofInt (-2000000) = (-2000000 : Int32) by decide +kernel]
  exact wd_619
abbrev rm_L_said0 : Room := { frames := 8, cells := 0, slots := 0, locals := 124 }
abbrev rm_L_comes0 : Room := { frames := 8, cells := 0, slots := 0, locals := 124 }
abbrev rm_L_heard0 : Room := { frames := 8, cells := 0, slots := 0, locals := 125 }
abbrev rm_L_speaker0 : Room := { frames := 8, cells := 0, slots := 0, locals := 124 }
abbrev rm_L_message0 : Room := { frames := 8, cells := 0, slots := 0, locals := 125 }
abbrev rm_L_count0 : Room := { frames := 8, cells := 0, slots := 0, locals := 160 }
abbrev rm_L_whyNot0 : Room := { frames := 8, cells := 0, slots := 0, locals := 124 }
abbrev rm_L_ifSilent0 : Room := { frames := 8, cells := 0, slots := 0, locals := 123 }
abbrev rm_L_heardIn0 : Room := { frames := 8, cells := 0, slots := 0, locals := 124 }
set_option maxHeartbeats 4000000 in
set_option maxRecDepth 100000 in
theorem k_L_say {Ω : xO} {h : xM} {x lo : Nat} {L : lS} {s w u : Int} (hE : EL h x lo L) (irs : inR s) (irw : inR w) (iru : inR u) : yCt Ω yL_say cL_say 5 (some .int) [(0, 7, 8, 15), (0, 7, 13, 18), (0, 7, 18, 21)] rm_L_say [rf x, vi s, vi w, vi u] h (fun q h' => ∃ r, q = some (vi r) ∧ EF h h' x lo ∧ ((((0 ≤ s ∧ s < 6) ∧ ((1 ≤ w ∧ w ≤ 99) ∧ (-1 ≤ u ∧ u ≤ 9)) ∧ (aW (lA L) < 200 ∧ aB (lA L) < 400)) ∧ r = aW (lA L) ∧ EL h' x lo (sA (sSave L) (aEnd (aAdd (lA L) s w u)))) ∨ (py3 (0 ≤ s ∧ s < 6) ((1 ≤ w ∧ w ≤ 99) ∧ (-1 ≤ u ∧ u ≤ 9)) (aW (lA L) < 200 ∧ aB (lA L) < 400) (-2000000 - r) ∧ EL h' x lo L))) := by
  refine yCt_of (by decide +kernel) (Nat.le_of_ble_eq_true rfl) (fun p e s0 m0 args0 below meth c cx wd htab => ?_)
  generalize hPR : (fun q h' => ∃ r, q = some (vi r) ∧ EF h h' x lo ∧ ((((0 ≤ s ∧ s < 6) ∧ ((1 ≤ w ∧ w ≤ 99) ∧ (-1 ≤ u ∧ u ≤ 9)) ∧ (aW (lA L) < 200 ∧ aB (lA L) < 400)) ∧ r = aW (lA L) ∧ EL h' x lo (sA (sSave L) (aEnd (aAdd (lA L) s w u)))) ∨ (py3 (0 ≤ s ∧ s < 6) ((1 ≤ w ∧ w ≤ 99) ∧ (-1 ≤ u ∧ u ≤ 9)) (aW (lA L) < 200 ∧ aB (lA L) < 400) (-2000000 - r) ∧ EL h' x lo L)) : Option xV → xM → Prop) = PR
  have K0 : Y Ω rm_L_say (vx_MQ below (xQ Ω PR) (xX Ω xNo) args0 s0 rm_L_say.cells rm_L_say.slots (xA Ω)) p e s0 m0 args0 below meth c 5 0 0 0 [some (rf x), some (vi s), some (vi w), some (vi u), none] [] h := ?_
  exact K0
  obtain ⟨irs1, irs2⟩ := id irs
  obtain ⟨irw1, irw2⟩ := id irw
  obtain ⟨iru1, iru2⟩ := id iru
  refine Y.aload_n cx wd (i := 0) rfl rfl dL_say_0 (pc' := 1) rfl ?_
  refine Y.iload_n cx wd (i := 1) rfl rfl dL_say_1 (pc' := 2) rfl ?_
  refine Y.iload_n cx wd (i := 2) rfl rfl dL_say_2 (pc' := 3) rfl ?_
  refine Y.iload_n cx wd (i := 3) rfl rfl dL_say_3 (pc' := 4) rfl ?_
  refine Y.callVX cx wd (ci := 5) (a := x) (rm := rm_X5_say) (As := [vi s, vi w, vi u]) (st := []) dL_say_4 ck_L_9 rfl (by decide) hE.1.1 rfl rfl ⟨Nat.le_of_ble_eq_true rfl, Nat.le_of_ble_eq_true rfl⟩ (Nat.le_of_ble_eq_true rfl) (Nat.le_of_ble_eq_true rfl) (Nat.le_of_ble_eq_true rfl) (pc' := 7) rfl (k_X5_say hE irs irw iru) (fun q1 h1 e1 => ?_) (fun E hx ex => ?_)
  · obtain ⟨hcd, rfl, hE1, hF1⟩ := e1
    refine Y.iret cx dL_say_7 rfl (Nat.le_of_ble_eq_true rfl) (Nat.le_of_ble_eq_true rfl) ?_
    subst hPR
    exact ⟨_, rfl, hF1, Or.inl ⟨hcd, rfl, hE1⟩⟩
  · obtain ⟨⟨n9, hn9, rfl⟩, hc9⟩ := ex
    have hU := hE.gN hn9
    rcases hc9 with ⟨c1, rfl⟩ | ⟨c1, c2, rfl⟩ | ⟨c1, c2, c3, rfl⟩
    · refine ⟨8, ⟨[], ⟨0, 7, 8, 15⟩, [⟨0, 7, 13, 18⟩, ⟨0, 7, 18, 21⟩], "java/lang/IndexOutOfBoundsException", htab, (fun z hz => absurd hz List.not_mem_nil), by decide, by decide, cx.2.2.2.2.2.2 _ wL_0, va_tabs rfl rfl (wd.2.2.1 _ wC_0), rfl⟩, fun q9 => ?_⟩
      refine Y.astore cx wd (i := 4) (ls' := [some (rf x), some (vi s), some (vi w), some (vi u), some (rf q9)]) (hd := dL_say_8) (by decide) rfl rfl (pc' := 10) rfl ?_
      refine Y.ldcI cx wd (v := (-2000001)) dL_say_10 kL_17 (pc' := 12) rfl ?_
      refine Y.iret cx dL_say_12 rfl (Nat.le_of_ble_eq_true rfl) (Nat.le_of_ble_eq_true rfl) ?_
      subst hPR
      exact ⟨_, rfl, hU.2, Or.inr ⟨Or.inl ⟨c1, rfl⟩, hU.1⟩⟩
    · refine ⟨13, ⟨[⟨0, 7, 8, 15⟩], ⟨0, 7, 13, 18⟩, [⟨0, 7, 18, 21⟩], "java/lang/IllegalArgumentException", htab, (fun z hz => by
          simp only [List.mem_cons, List.not_mem_nil, or_false] at hz
          rcases hz with rfl
          · exact Or.inr ⟨by decide, "java/lang/IndexOutOfBoundsException", cx.2.2.2.2.2.2 _ wL_0, wd.2.2.2.2.2.1 1 0 (by decide) (by decide) (by decide)⟩), by decide, by decide, cx.2.2.2.2.2.2 _ wL_1, va_tabs rfl rfl (wd.2.2.1 _ wC_1), rfl⟩, fun q9 => ?_⟩
      refine Y.astore cx wd (i := 4) (ls' := [some (rf x), some (vi s), some (vi w), some (vi u), some (rf q9)]) (hd := dL_say_13) (by decide) rfl rfl (pc' := 15) rfl ?_
      refine Y.ldcI cx wd (v := (-2000002)) dL_say_15 kL_20 (pc' := 17) rfl ?_
      refine Y.iret cx dL_say_17 rfl (Nat.le_of_ble_eq_true rfl) (Nat.le_of_ble_eq_true rfl) ?_
      subst hPR
      exact ⟨_, rfl, hU.2, Or.inr ⟨Or.inr (Or.inl ⟨c1, c2, rfl⟩), hU.1⟩⟩
    · refine ⟨18, ⟨[⟨0, 7, 8, 15⟩, ⟨0, 7, 13, 18⟩], ⟨0, 7, 18, 21⟩, [], "java/lang/IllegalStateException", htab, (fun z hz => by
          simp only [List.mem_cons, List.not_mem_nil, or_false] at hz
          rcases hz with rfl | rfl
          · exact Or.inr ⟨by decide, "java/lang/IndexOutOfBoundsException", cx.2.2.2.2.2.2 _ wL_0, wd.2.2.2.2.2.1 2 0 (by decide) (by decide) (by decide)⟩
          · exact Or.inr ⟨by decide, "java/lang/IllegalArgumentException", cx.2.2.2.2.2.2 _ wL_1, wd.2.2.2.2.2.1 2 1 (by decide) (by decide) (by decide)⟩), by decide, by decide, cx.2.2.2.2.2.2 _ wL_2, va_tabs rfl rfl (wd.2.2.1 _ wC_2), rfl⟩, fun q9 => ?_⟩
      refine Y.astore cx wd (i := 4) (ls' := [some (rf x), some (vi s), some (vi w), some (vi u), some (rf q9)]) (hd := dL_say_18) (by decide) rfl rfl (pc' := 20) rfl ?_
      refine Y.ldcI cx wd (v := (-2000003)) dL_say_20 kL_23 (pc' := 22) rfl ?_
      refine Y.iret cx dL_say_22 rfl (Nat.le_of_ble_eq_true rfl) (Nat.le_of_ble_eq_true rfl) ?_
      subst hPR
      exact ⟨_, rfl, hU.2, Or.inr ⟨Or.inr (Or.inr ⟨c1, c2, c3, rfl⟩), hU.1⟩⟩
set_option maxHeartbeats 4000000 in
set_option maxRecDepth 100000 in
theorem k_L_pass {Ω : xO} {h : xM} {x lo : Nat} {L : lS} {n : Int} (hE : EL h x lo L) (irn : inR n) : yCt Ω yL_pass cL_pass 3 (some .int) [(0, 5, 6, 18), (0, 5, 10, 21)] rm_L_pass [rf x, vi n] h (fun q h' => ∃ r, q = some (vi r) ∧ EF h h' x lo ∧ ((((1 ≤ n ∧ n ≤ 50) ∧ (aB (lA L) + n ≤ 400) ∧ (True)) ∧ r = aB (lA L) + n ∧ EL h' x lo (sA (sSave L) (aRest (lA L) n.toNat))) ∨ (py3 (1 ≤ n ∧ n ≤ 50) (aB (lA L) + n ≤ 400) (True) (-2000000 - r) ∧ EL h' x lo L))) := by
  refine yCt_of (by decide +kernel) (Nat.le_of_ble_eq_true rfl) (fun p e s0 m0 args0 below meth c cx wd htab => ?_)
  generalize hPR : (fun q h' => ∃ r, q = some (vi r) ∧ EF h h' x lo ∧ ((((1 ≤ n ∧ n ≤ 50) ∧ (aB (lA L) + n ≤ 400) ∧ (True)) ∧ r = aB (lA L) + n ∧ EL h' x lo (sA (sSave L) (aRest (lA L) n.toNat))) ∨ (py3 (1 ≤ n ∧ n ≤ 50) (aB (lA L) + n ≤ 400) (True) (-2000000 - r) ∧ EL h' x lo L)) : Option xV → xM → Prop) = PR
  have K0 : Y Ω rm_L_pass (vx_MQ below (xQ Ω PR) (xX Ω xNo) args0 s0 rm_L_pass.cells rm_L_pass.slots (xA Ω)) p e s0 m0 args0 below meth c 3 0 0 0 [some (rf x), some (vi n), none] [] h := ?_
  exact K0
  obtain ⟨irn1, irn2⟩ := id irn
  refine Y.aload_n cx wd (i := 0) rfl rfl dL_pass_0 (pc' := 1) rfl ?_
  refine Y.iload_n cx wd (i := 1) rfl rfl dL_pass_1 (pc' := 2) rfl ?_
  refine Y.callVX cx wd (ci := 5) (a := x) (rm := rm_X5_pass) (As := [vi n]) (st := []) dL_pass_2 ck_L_24 rfl (by decide) hE.1.1 rfl rfl ⟨Nat.le_of_ble_eq_true rfl, Nat.le_of_ble_eq_true rfl⟩ (Nat.le_of_ble_eq_true rfl) (Nat.le_of_ble_eq_true rfl) (Nat.le_of_ble_eq_true rfl) (pc' := 5) rfl (k_X5_pass hE irn) (fun q1 h1 e1 => ?_) (fun E hx ex => ?_)
  · obtain ⟨hcd, rfl, hE1, hF1⟩ := e1
    refine Y.iret cx dL_pass_5 rfl (Nat.le_of_ble_eq_true rfl) (Nat.le_of_ble_eq_true rfl) ?_
    subst hPR
    exact ⟨_, rfl, hF1, Or.inl ⟨⟨hcd.1, hcd.2, trivial⟩, rfl, hE1⟩⟩
  · obtain ⟨⟨n9, hn9, rfl⟩, hc9⟩ := ex
    have hU := hE.gN hn9
    rcases hc9 with ⟨c1, rfl⟩ | ⟨c1, c2, rfl⟩ | ⟨c1, c2, c3, rfl⟩
    · refine ⟨6, ⟨[], ⟨0, 5, 6, 18⟩, [⟨0, 5, 10, 21⟩], "java/lang/IllegalArgumentException", htab, (fun z hz => absurd hz List.not_mem_nil), by decide, by decide, cx.2.2.2.2.2.2 _ wL_1, va_tabs rfl rfl (wd.2.2.1 _ wC_1), rfl⟩, fun q9 => ?_⟩
      refine Y.astore_n cx wd (i := 2) (ls' := [some (rf x), some (vi n), some (rf q9)]) (hi := rfl) (hd := dL_pass_6) (by decide) rfl rfl (pc' := 7) rfl ?_
      refine Y.ldcI cx wd (v := (-2000001)) dL_pass_7 kL_17 (pc' := 9) rfl ?_
      refine Y.iret cx dL_pass_9 rfl (Nat.le_of_ble_eq_true rfl) (Nat.le_of_ble_eq_true rfl) ?_
      subst hPR
      exact ⟨_, rfl, hU.2, Or.inr ⟨Or.inl ⟨c1, rfl⟩, hU.1⟩⟩
    · refine ⟨10, ⟨[⟨0, 5, 6, 18⟩], ⟨0, 5, 10, 21⟩, [], "java/lang/IllegalStateException", htab, (fun z hz => by
          simp only [List.mem_cons, List.not_mem_nil, or_false] at hz
          rcases hz with rfl
          · exact Or.inr ⟨by decide, "java/lang/IllegalArgumentException", cx.2.2.2.2.2.2 _ wL_1, wd.2.2.2.2.2.1 2 1 (by decide) (by decide) (by decide)⟩), by decide, by decide, cx.2.2.2.2.2.2 _ wL_2, va_tabs rfl rfl (wd.2.2.1 _ wC_2), rfl⟩, fun q9 => ?_⟩
      refine Y.astore_n cx wd (i := 2) (ls' := [some (rf x), some (vi n), some (rf q9)]) (hi := rfl) (hd := dL_pass_10) (by decide) rfl rfl (pc' := 11) rfl ?_
      refine Y.ldcI cx wd (v := (-2000002)) dL_pass_11 kL_20 (pc' := 13) rfl ?_
      refine Y.iret cx dL_pass_13 rfl (Nat.le_of_ble_eq_true rfl) (Nat.le_of_ble_eq_true rfl) ?_
      subst hPR
      exact ⟨_, rfl, hU.2, Or.inr ⟨Or.inr (Or.inl ⟨c1, c2, rfl⟩), hU.1⟩⟩
    · exact absurd trivial c3
set_option maxHeartbeats 4000000 in
set_option maxRecDepth 100000 in
theorem k_L_wall {Ω : xO} {h : xM} {x lo : Nat} {L : lS} {s k : Int} (hE : EL h x lo L) (irs : inR s) (irk : inR k) : yCt Ω yL_wall cL_wall 4 (some .int) [(0, 6, 7, 15), (0, 6, 11, 18)] rm_L_wall [rf x, vi s, vi k] h (fun q h' => ∃ r, q = some (vi r) ∧ EF h h' x lo ∧ ((((0 ≤ s ∧ s < 6) ∧ (0 ≤ k ∧ k ≤ 3) ∧ (True)) ∧ r = aWl (lA L) s ∧ EL h' x lo (sA (sSave L) (aSWl (lA L) s k))) ∨ (py3 (0 ≤ s ∧ s < 6) (0 ≤ k ∧ k ≤ 3) (True) (-2000000 - r) ∧ EL h' x lo L))) := by
  refine yCt_of (by decide +kernel) (Nat.le_of_ble_eq_true rfl) (fun p e s0 m0 args0 below meth c cx wd htab => ?_)
  generalize hPR : (fun q h' => ∃ r, q = some (vi r) ∧ EF h h' x lo ∧ ((((0 ≤ s ∧ s < 6) ∧ (0 ≤ k ∧ k ≤ 3) ∧ (True)) ∧ r = aWl (lA L) s ∧ EL h' x lo (sA (sSave L) (aSWl (lA L) s k))) ∨ (py3 (0 ≤ s ∧ s < 6) (0 ≤ k ∧ k ≤ 3) (True) (-2000000 - r) ∧ EL h' x lo L)) : Option xV → xM → Prop) = PR
  have K0 : Y Ω rm_L_wall (vx_MQ below (xQ Ω PR) (xX Ω xNo) args0 s0 rm_L_wall.cells rm_L_wall.slots (xA Ω)) p e s0 m0 args0 below meth c 4 0 0 0 [some (rf x), some (vi s), some (vi k), none] [] h := ?_
  exact K0
  obtain ⟨irs1, irs2⟩ := id irs
  obtain ⟨irk1, irk2⟩ := id irk
  refine Y.aload_n cx wd (i := 0) rfl rfl dL_wall_0 (pc' := 1) rfl ?_
  refine Y.iload_n cx wd (i := 1) rfl rfl dL_wall_1 (pc' := 2) rfl ?_
  refine Y.iload_n cx wd (i := 2) rfl rfl dL_wall_2 (pc' := 3) rfl ?_
  refine Y.callVX cx wd (ci := 5) (a := x) (rm := rm_X5_wall) (As := [vi s, vi k]) (st := []) dL_wall_3 ck_L_28 rfl (by decide) hE.1.1 rfl rfl ⟨Nat.le_of_ble_eq_true rfl, Nat.le_of_ble_eq_true rfl⟩ (Nat.le_of_ble_eq_true rfl) (Nat.le_of_ble_eq_true rfl) (Nat.le_of_ble_eq_true rfl) (pc' := 6) rfl (k_X5_wall hE irs irk) (fun q1 h1 e1 => ?_) (fun E hx ex => ?_)
  · obtain ⟨hcd, rfl, hE1, hF1⟩ := e1
    refine Y.iret cx dL_wall_6 rfl (Nat.le_of_ble_eq_true rfl) (Nat.le_of_ble_eq_true rfl) ?_
    subst hPR
    exact ⟨_, rfl, hF1, Or.inl ⟨⟨hcd.1, hcd.2, trivial⟩, rfl, hE1⟩⟩
  · obtain ⟨⟨n9, hn9, rfl⟩, hc9⟩ := ex
    have hU := hE.gN hn9
    rcases hc9 with ⟨c1, rfl⟩ | ⟨c1, c2, rfl⟩ | ⟨c1, c2, c3, rfl⟩
    · refine ⟨7, ⟨[], ⟨0, 6, 7, 15⟩, [⟨0, 6, 11, 18⟩], "java/lang/IndexOutOfBoundsException", htab, (fun z hz => absurd hz List.not_mem_nil), by decide, by decide, cx.2.2.2.2.2.2 _ wL_0, va_tabs rfl rfl (wd.2.2.1 _ wC_0), rfl⟩, fun q9 => ?_⟩
      refine Y.astore_n cx wd (i := 3) (ls' := [some (rf x), some (vi s), some (vi k), some (rf q9)]) (hi := rfl) (hd := dL_wall_7) (by decide) rfl rfl (pc' := 8) rfl ?_
      refine Y.ldcI cx wd (v := (-2000001)) dL_wall_8 kL_17 (pc' := 10) rfl ?_
      refine Y.iret cx dL_wall_10 rfl (Nat.le_of_ble_eq_true rfl) (Nat.le_of_ble_eq_true rfl) ?_
      subst hPR
      exact ⟨_, rfl, hU.2, Or.inr ⟨Or.inl ⟨c1, rfl⟩, hU.1⟩⟩
    · refine ⟨11, ⟨[⟨0, 6, 7, 15⟩], ⟨0, 6, 11, 18⟩, [], "java/lang/IllegalArgumentException", htab, (fun z hz => by
          simp only [List.mem_cons, List.not_mem_nil, or_false] at hz
          rcases hz with rfl
          · exact Or.inr ⟨by decide, "java/lang/IndexOutOfBoundsException", cx.2.2.2.2.2.2 _ wL_0, wd.2.2.2.2.2.1 1 0 (by decide) (by decide) (by decide)⟩), by decide, by decide, cx.2.2.2.2.2.2 _ wL_1, va_tabs rfl rfl (wd.2.2.1 _ wC_1), rfl⟩, fun q9 => ?_⟩
      refine Y.astore_n cx wd (i := 3) (ls' := [some (rf x), some (vi s), some (vi k), some (rf q9)]) (hi := rfl) (hd := dL_wall_11) (by decide) rfl rfl (pc' := 12) rfl ?_
      refine Y.ldcI cx wd (v := (-2000002)) dL_wall_12 kL_20 (pc' := 14) rfl ?_
      refine Y.iret cx dL_wall_14 rfl (Nat.le_of_ble_eq_true rfl) (Nat.le_of_ble_eq_true rfl) ?_
      subst hPR
      exact ⟨_, rfl, hU.2, Or.inr ⟨Or.inr (Or.inl ⟨c1, c2, rfl⟩), hU.1⟩⟩
    · exact absurd trivial c3
set_option maxHeartbeats 4000000 in
set_option maxRecDepth 100000 in
theorem k_L_set {Ω : xO} {h : xM} {x lo : Nat} {L : lS} {s k : Int} (hE : EL h x lo L) (irs : inR s) (irk : inR k) : yCt Ω yL_set cL_set 4 (some .int) [(0, 6, 7, 15), (0, 6, 11, 18)] rm_L_set [rf x, vi s, vi k] h (fun q h' => ∃ r, q = some (vi r) ∧ EF h h' x lo ∧ ((((0 ≤ s ∧ s ≤ 2) ∧ (stOK s k) ∧ (True)) ∧ r = aSt (lA L) s ∧ EL h' x lo (sA (sSave L) (aSSt (lA L) s k))) ∨ (py3 (0 ≤ s ∧ s ≤ 2) (stOK s k) (True) (-2000000 - r) ∧ EL h' x lo L))) := by
  refine yCt_of (by decide +kernel) (Nat.le_of_ble_eq_true rfl) (fun p e s0 m0 args0 below meth c cx wd htab => ?_)
  generalize hPR : (fun q h' => ∃ r, q = some (vi r) ∧ EF h h' x lo ∧ ((((0 ≤ s ∧ s ≤ 2) ∧ (stOK s k) ∧ (True)) ∧ r = aSt (lA L) s ∧ EL h' x lo (sA (sSave L) (aSSt (lA L) s k))) ∨ (py3 (0 ≤ s ∧ s ≤ 2) (stOK s k) (True) (-2000000 - r) ∧ EL h' x lo L)) : Option xV → xM → Prop) = PR
  have K0 : Y Ω rm_L_set (vx_MQ below (xQ Ω PR) (xX Ω xNo) args0 s0 rm_L_set.cells rm_L_set.slots (xA Ω)) p e s0 m0 args0 below meth c 4 0 0 0 [some (rf x), some (vi s), some (vi k), none] [] h := ?_
  exact K0
  obtain ⟨irs1, irs2⟩ := id irs
  obtain ⟨irk1, irk2⟩ := id irk
  refine Y.aload_n cx wd (i := 0) rfl rfl dL_set_0 (pc' := 1) rfl ?_
  refine Y.iload_n cx wd (i := 1) rfl rfl dL_set_1 (pc' := 2) rfl ?_
  refine Y.iload_n cx wd (i := 2) rfl rfl dL_set_2 (pc' := 3) rfl ?_
  refine Y.callVX cx wd (ci := 5) (a := x) (rm := rm_X5_set) (As := [vi s, vi k]) (st := []) dL_set_3 ck_L_32 rfl (by decide) hE.1.1 rfl rfl ⟨Nat.le_of_ble_eq_true rfl, Nat.le_of_ble_eq_true rfl⟩ (Nat.le_of_ble_eq_true rfl) (Nat.le_of_ble_eq_true rfl) (Nat.le_of_ble_eq_true rfl) (pc' := 6) rfl (k_X5_set hE irs irk) (fun q1 h1 e1 => ?_) (fun E hx ex => ?_)
  · obtain ⟨hcd, rfl, hE1, hF1⟩ := e1
    refine Y.iret cx dL_set_6 rfl (Nat.le_of_ble_eq_true rfl) (Nat.le_of_ble_eq_true rfl) ?_
    subst hPR
    exact ⟨_, rfl, hF1, Or.inl ⟨⟨hcd.1, hcd.2, trivial⟩, rfl, hE1⟩⟩
  · obtain ⟨⟨n9, hn9, rfl⟩, hc9⟩ := ex
    have hU := hE.gN hn9
    rcases hc9 with ⟨c1, rfl⟩ | ⟨c1, c2, rfl⟩ | ⟨c1, c2, c3, rfl⟩
    · refine ⟨7, ⟨[], ⟨0, 6, 7, 15⟩, [⟨0, 6, 11, 18⟩], "java/lang/IndexOutOfBoundsException", htab, (fun z hz => absurd hz List.not_mem_nil), by decide, by decide, cx.2.2.2.2.2.2 _ wL_0, va_tabs rfl rfl (wd.2.2.1 _ wC_0), rfl⟩, fun q9 => ?_⟩
      refine Y.astore_n cx wd (i := 3) (ls' := [some (rf x), some (vi s), some (vi k), some (rf q9)]) (hi := rfl) (hd := dL_set_7) (by decide) rfl rfl (pc' := 8) rfl ?_
      refine Y.ldcI cx wd (v := (-2000001)) dL_set_8 kL_17 (pc' := 10) rfl ?_
      refine Y.iret cx dL_set_10 rfl (Nat.le_of_ble_eq_true rfl) (Nat.le_of_ble_eq_true rfl) ?_
      subst hPR
      exact ⟨_, rfl, hU.2, Or.inr ⟨Or.inl ⟨c1, rfl⟩, hU.1⟩⟩
    · refine ⟨11, ⟨[⟨0, 6, 7, 15⟩], ⟨0, 6, 11, 18⟩, [], "java/lang/IllegalArgumentException", htab, (fun z hz => by
          simp only [List.mem_cons, List.not_mem_nil, or_false] at hz
          rcases hz with rfl
          · exact Or.inr ⟨by decide, "java/lang/IndexOutOfBoundsException", cx.2.2.2.2.2.2 _ wL_0, wd.2.2.2.2.2.1 1 0 (by decide) (by decide) (by decide)⟩), by decide, by decide, cx.2.2.2.2.2.2 _ wL_1, va_tabs rfl rfl (wd.2.2.1 _ wC_1), rfl⟩, fun q9 => ?_⟩
      refine Y.astore_n cx wd (i := 3) (ls' := [some (rf x), some (vi s), some (vi k), some (rf q9)]) (hi := rfl) (hd := dL_set_11) (by decide) rfl rfl (pc' := 12) rfl ?_
      refine Y.ldcI cx wd (v := (-2000002)) dL_set_12 kL_20 (pc' := 14) rfl ?_
      refine Y.iret cx dL_set_14 rfl (Nat.le_of_ble_eq_true rfl) (Nat.le_of_ble_eq_true rfl) ?_
      subst hPR
      exact ⟨_, rfl, hU.2, Or.inr ⟨Or.inr (Or.inl ⟨c1, c2, rfl⟩), hU.1⟩⟩
    · exact absurd trivial c3
set_option maxHeartbeats 4000000 in
set_option maxRecDepth 100000 in
theorem k_L_undo {Ω : xO} {h : xM} {x lo : Nat} {L : lS} (hE : EL h x lo L) : yCt Ω yL_undo cL_undo 2 (some .int) [(0, 4, 5, 21)] rm_L_undo [rf x] h (fun q h' => ∃ r, q = some (vi r) ∧ EF h h' x lo ∧ ((((0 < lZ L) ∧ (True) ∧ (True)) ∧ r = lZ L - 1 ∧ EL h' x lo (sZ (sA L (lSv L (lZ L - 1))) (lZ L - 1))) ∨ (py3 (0 < lZ L) (True) (True) (-2000000 - r) ∧ EL h' x lo L))) := by
  refine yCt_of (by decide +kernel) (Nat.le_of_ble_eq_true rfl) (fun p e s0 m0 args0 below meth c cx wd htab => ?_)
  generalize hPR : (fun q h' => ∃ r, q = some (vi r) ∧ EF h h' x lo ∧ ((((0 < lZ L) ∧ (True) ∧ (True)) ∧ r = lZ L - 1 ∧ EL h' x lo (sZ (sA L (lSv L (lZ L - 1))) (lZ L - 1))) ∨ (py3 (0 < lZ L) (True) (True) (-2000000 - r) ∧ EL h' x lo L)) : Option xV → xM → Prop) = PR
  have K0 : Y Ω rm_L_undo (vx_MQ below (xQ Ω PR) (xX Ω xNo) args0 s0 rm_L_undo.cells rm_L_undo.slots (xA Ω)) p e s0 m0 args0 below meth c 2 0 0 0 [some (rf x), none] [] h := ?_
  exact K0
  refine Y.aload_n cx wd (i := 0) rfl rfl dL_undo_0 (pc' := 1) rfl ?_
  refine Y.callVX cx wd (ci := 5) (a := x) (rm := rm_X5_undo) (As := []) (st := []) dL_undo_1 ck_L_35 rfl (by decide) hE.1.1 rfl rfl ⟨Nat.le_of_ble_eq_true rfl, Nat.le_of_ble_eq_true rfl⟩ (Nat.le_of_ble_eq_true rfl) (Nat.le_of_ble_eq_true rfl) (Nat.le_of_ble_eq_true rfl) (pc' := 4) rfl (k_X5_undo hE) (fun q1 h1 e1 => ?_) (fun E hx ex => ?_)
  · obtain ⟨hcd, rfl, hE1, hF1⟩ := e1
    refine Y.iret cx dL_undo_4 rfl (Nat.le_of_ble_eq_true rfl) (Nat.le_of_ble_eq_true rfl) ?_
    subst hPR
    exact ⟨_, rfl, hF1, Or.inl ⟨⟨hcd, trivial, trivial⟩, rfl, hE1⟩⟩
  · obtain ⟨⟨n9, hn9, rfl⟩, hc9⟩ := ex
    have hU := hE.gN hn9
    rcases hc9 with ⟨c1, rfl⟩ | ⟨c1, c2, rfl⟩ | ⟨c1, c2, c3, rfl⟩
    · refine ⟨5, ⟨[], ⟨0, 4, 5, 21⟩, [], "java/lang/IllegalStateException", htab, (fun z hz => absurd hz List.not_mem_nil), by decide, by decide, cx.2.2.2.2.2.2 _ wL_2, va_tabs rfl rfl (wd.2.2.1 _ wC_2), rfl⟩, fun q9 => ?_⟩
      refine Y.astore_n cx wd (i := 1) (ls' := [some (rf x), some (rf q9)]) (hi := rfl) (hd := dL_undo_5) (by decide) rfl rfl (pc' := 6) rfl ?_
      refine Y.ldcI cx wd (v := (-2000001)) dL_undo_6 kL_17 (pc' := 8) rfl ?_
      refine Y.iret cx dL_undo_8 rfl (Nat.le_of_ble_eq_true rfl) (Nat.le_of_ble_eq_true rfl) ?_
      subst hPR
      exact ⟨_, rfl, hU.2, Or.inr ⟨Or.inl ⟨c1, rfl⟩, hU.1⟩⟩
    · exact absurd trivial c2
    · exact absurd trivial c3
set_option maxHeartbeats 4000000 in
set_option maxRecDepth 100000 in
theorem k_L_restore {Ω : xO} {h : xM} {x lo : Nat} {L : lS} (hE : EL h x lo L) : yCt Ω yL_restore cL_restore 2 (some .int) [(0, 4, 5, 21)] rm_L_restore [rf x] h (fun q h' => ∃ r, q = some (vi r) ∧ EF h h' x lo ∧ ((((lKf L = 1) ∧ (True) ∧ (True)) ∧ r = aB (lK L) ∧ EL h' x lo (sA (sSave L) (lK L))) ∨ (py3 (lKf L = 1) (True) (True) (-2000000 - r) ∧ EL h' x lo L))) := by
  refine yCt_of (by decide +kernel) (Nat.le_of_ble_eq_true rfl) (fun p e s0 m0 args0 below meth c cx wd htab => ?_)
  generalize hPR : (fun q h' => ∃ r, q = some (vi r) ∧ EF h h' x lo ∧ ((((lKf L = 1) ∧ (True) ∧ (True)) ∧ r = aB (lK L) ∧ EL h' x lo (sA (sSave L) (lK L))) ∨ (py3 (lKf L = 1) (True) (True) (-2000000 - r) ∧ EL h' x lo L)) : Option xV → xM → Prop) = PR
  have K0 : Y Ω rm_L_restore (vx_MQ below (xQ Ω PR) (xX Ω xNo) args0 s0 rm_L_restore.cells rm_L_restore.slots (xA Ω)) p e s0 m0 args0 below meth c 2 0 0 0 [some (rf x), none] [] h := ?_
  exact K0
  refine Y.aload_n cx wd (i := 0) rfl rfl dL_restore_0 (pc' := 1) rfl ?_
  refine Y.callVX cx wd (ci := 5) (a := x) (rm := rm_X5_restore) (As := []) (st := []) dL_restore_1 ck_L_39 rfl (by decide) hE.1.1 rfl rfl ⟨Nat.le_of_ble_eq_true rfl, Nat.le_of_ble_eq_true rfl⟩ (Nat.le_of_ble_eq_true rfl) (Nat.le_of_ble_eq_true rfl) (Nat.le_of_ble_eq_true rfl) (pc' := 4) rfl (k_X5_restore hE) (fun q1 h1 e1 => ?_) (fun E hx ex => ?_)
  · obtain ⟨hcd, rfl, hE1, hF1⟩ := e1
    refine Y.iret cx dL_restore_4 rfl (Nat.le_of_ble_eq_true rfl) (Nat.le_of_ble_eq_true rfl) ?_
    subst hPR
    exact ⟨_, rfl, hF1, Or.inl ⟨⟨hcd, trivial, trivial⟩, rfl, hE1⟩⟩
  · obtain ⟨⟨n9, hn9, rfl⟩, hc9⟩ := ex
    have hU := hE.gN hn9
    rcases hc9 with ⟨c1, rfl⟩ | ⟨c1, c2, rfl⟩ | ⟨c1, c2, c3, rfl⟩
    · refine ⟨5, ⟨[], ⟨0, 4, 5, 21⟩, [], "java/lang/IllegalStateException", htab, (fun z hz => absurd hz List.not_mem_nil), by decide, by decide, cx.2.2.2.2.2.2 _ wL_2, va_tabs rfl rfl (wd.2.2.1 _ wC_2), rfl⟩, fun q9 => ?_⟩
      refine Y.astore_n cx wd (i := 1) (ls' := [some (rf x), some (rf q9)]) (hi := rfl) (hd := dL_restore_5) (by decide) rfl rfl (pc' := 6) rfl ?_
      refine Y.ldcI cx wd (v := (-2000001)) dL_restore_6 kL_17 (pc' := 8) rfl ?_
      refine Y.iret cx dL_restore_8 rfl (Nat.le_of_ble_eq_true rfl) (Nat.le_of_ble_eq_true rfl) ?_
      subst hPR
      exact ⟨_, rfl, hU.2, Or.inr ⟨Or.inl ⟨c1, rfl⟩, hU.1⟩⟩
    · exact absurd trivial c2
    · exact absurd trivial c3
set_option maxHeartbeats 4000000 in
set_option maxRecDepth 100000 in
theorem k_L_said {Ω : xO} {h : xM} {x lo : Nat} {L : lS} {n w : Int} (hE : EL h x lo L) (irn : inR n) (irw : inR w) : yCt Ω yL_said cL_said 4 (some .int) [(0, 6, 7, 18)] rm_L_said [rf x, vi n, vi w] h (fun q h' => ∃ r, q = some (vi r) ∧ EF h h' x lo ∧ ((((0 ≤ n ∧ (0 ≤ w ∧ w ≤ 5)) ∧ (True) ∧ (True)) ∧ r = (if n < aW (lA L) then oWd (lA L) n w else -1) ∧ EL h' x lo (L)) ∨ (py3 (0 ≤ n ∧ (0 ≤ w ∧ w ≤ 5)) (True) (True) (-2000000 - r) ∧ EL h' x lo L))) := by
  refine yCt_of (by decide +kernel) (Nat.le_of_ble_eq_true rfl) (fun p e s0 m0 args0 below meth c cx wd htab => ?_)
  generalize hPR : (fun q h' => ∃ r, q = some (vi r) ∧ EF h h' x lo ∧ ((((0 ≤ n ∧ (0 ≤ w ∧ w ≤ 5)) ∧ (True) ∧ (True)) ∧ r = (if n < aW (lA L) then oWd (lA L) n w else -1) ∧ EL h' x lo (L)) ∨ (py3 (0 ≤ n ∧ (0 ≤ w ∧ w ≤ 5)) (True) (True) (-2000000 - r) ∧ EL h' x lo L)) : Option xV → xM → Prop) = PR
  have K0 : Y Ω rm_L_said (vx_MQ below (xQ Ω PR) (xX Ω xNo) args0 s0 rm_L_said.cells rm_L_said.slots (xA Ω)) p e s0 m0 args0 below meth c 4 0 0 0 [some (rf x), some (vi n), some (vi w), none] [] h := ?_
  exact K0
  obtain ⟨irn1, irn2⟩ := id irn
  obtain ⟨irw1, irw2⟩ := id irw
  refine Y.aload_n cx wd (i := 0) rfl rfl dL_said_0 (pc' := 1) rfl ?_
  refine Y.iload_n cx wd (i := 1) rfl rfl dL_said_1 (pc' := 2) rfl ?_
  refine Y.iload_n cx wd (i := 2) rfl rfl dL_said_2 (pc' := 3) rfl ?_
  refine Y.callVX cx wd (ci := 5) (a := x) (rm := rm_X5_said) (As := [vi n, vi w]) (st := []) dL_said_3 ck_L_42 rfl (by decide) hE.1.1 rfl rfl ⟨Nat.le_of_ble_eq_true rfl, Nat.le_of_ble_eq_true rfl⟩ (Nat.le_of_ble_eq_true rfl) (Nat.le_of_ble_eq_true rfl) (Nat.le_of_ble_eq_true rfl) (pc' := 6) rfl (k_X5_said hE irn irw) (fun q1 h1 e1 => ?_) (fun E hx ex => ?_)
  · obtain ⟨rfl, hcd, rfl⟩ := e1
    refine Y.iret cx dL_said_6 rfl (Nat.le_of_ble_eq_true rfl) (Nat.le_of_ble_eq_true rfl) ?_
    subst hPR
    exact ⟨_, rfl, EF.rf, Or.inl ⟨⟨hcd.1, hcd.2, trivial⟩, rfl, hE⟩⟩
  · obtain ⟨⟨n9, hn9, rfl⟩, hc9⟩ := ex
    have hU := hE.gN hn9
    rcases hc9 with ⟨c1, rfl⟩ | ⟨c1, c2, rfl⟩ | ⟨c1, c2, c3, rfl⟩
    · refine ⟨7, ⟨[], ⟨0, 6, 7, 18⟩, [], "java/lang/IllegalArgumentException", htab, (fun z hz => absurd hz List.not_mem_nil), by decide, by decide, cx.2.2.2.2.2.2 _ wL_1, va_tabs rfl rfl (wd.2.2.1 _ wC_1), rfl⟩, fun q9 => ?_⟩
      refine Y.astore_n cx wd (i := 3) (ls' := [some (rf x), some (vi n), some (vi w), some (rf q9)]) (hi := rfl) (hd := dL_said_7) (by decide) rfl rfl (pc' := 8) rfl ?_
      refine Y.ldcI cx wd (v := (-2000001)) dL_said_8 kL_17 (pc' := 10) rfl ?_
      refine Y.iret cx dL_said_10 rfl (Nat.le_of_ble_eq_true rfl) (Nat.le_of_ble_eq_true rfl) ?_
      subst hPR
      exact ⟨_, rfl, hU.2, Or.inr ⟨Or.inl ⟨c1, rfl⟩, hU.1⟩⟩
    · exact absurd trivial c2
    · exact absurd trivial c3
set_option maxHeartbeats 4000000 in
set_option maxRecDepth 100000 in
theorem k_L_message {Ω : xO} {h : xM} {x lo : Nat} {L : lS} {f u s : Int} (hE : EL h x lo L) (irf : inR f) (iru : inR u) (irs : inR s) : yCt Ω yL_message cL_message 5 (some .int) [(0, 7, 8, 15), (0, 7, 13, 18)] rm_L_message [rf x, vi f, vi u, vi s] h (fun q h' => ∃ r, q = some (vi r) ∧ EF h h' x lo ∧ (((((0 ≤ f ∧ f < 6) ∧ (0 ≤ s ∧ s < 6)) ∧ (0 ≤ u ∧ u ≤ 9) ∧ (True)) ∧ r = how (lA L) f u s ∧ EL h' x lo (L)) ∨ (py3 ((0 ≤ f ∧ f < 6) ∧ (0 ≤ s ∧ s < 6)) (0 ≤ u ∧ u ≤ 9) (True) (-2000000 - r) ∧ EL h' x lo L))) := by
  refine yCt_of (by decide +kernel) (Nat.le_of_ble_eq_true rfl) (fun p e s0 m0 args0 below meth c cx wd htab => ?_)
  generalize hPR : (fun q h' => ∃ r, q = some (vi r) ∧ EF h h' x lo ∧ (((((0 ≤ f ∧ f < 6) ∧ (0 ≤ s ∧ s < 6)) ∧ (0 ≤ u ∧ u ≤ 9) ∧ (True)) ∧ r = how (lA L) f u s ∧ EL h' x lo (L)) ∨ (py3 ((0 ≤ f ∧ f < 6) ∧ (0 ≤ s ∧ s < 6)) (0 ≤ u ∧ u ≤ 9) (True) (-2000000 - r) ∧ EL h' x lo L)) : Option xV → xM → Prop) = PR
  have K0 : Y Ω rm_L_message (vx_MQ below (xQ Ω PR) (xX Ω xNo) args0 s0 rm_L_message.cells rm_L_message.slots (xA Ω)) p e s0 m0 args0 below meth c 5 0 0 0 [some (rf x), some (vi f), some (vi u), some (vi s), none] [] h := ?_
  exact K0
  obtain ⟨irf1, irf2⟩ := id irf
  obtain ⟨iru1, iru2⟩ := id iru
  obtain ⟨irs1, irs2⟩ := id irs
  refine Y.aload_n cx wd (i := 0) rfl rfl dL_message_0 (pc' := 1) rfl ?_
  refine Y.iload_n cx wd (i := 1) rfl rfl dL_message_1 (pc' := 2) rfl ?_
  refine Y.iload_n cx wd (i := 2) rfl rfl dL_message_2 (pc' := 3) rfl ?_
  refine Y.iload_n cx wd (i := 3) rfl rfl dL_message_3 (pc' := 4) rfl ?_
  refine Y.callVX cx wd (ci := 5) (a := x) (rm := rm_X5_message) (As := [vi f, vi u, vi s]) (st := []) dL_message_4 ck_L_54 rfl (by decide) hE.1.1 rfl rfl ⟨Nat.le_of_ble_eq_true rfl, Nat.le_of_ble_eq_true rfl⟩ (Nat.le_of_ble_eq_true rfl) (Nat.le_of_ble_eq_true rfl) (Nat.le_of_ble_eq_true rfl) (pc' := 7) rfl (k_X5_message hE irf iru irs) (fun q1 h1 e1 => ?_) (fun E hx ex => ?_)
  · obtain ⟨rfl, hcd, rfl⟩ := e1
    refine Y.iret cx dL_message_7 rfl (Nat.le_of_ble_eq_true rfl) (Nat.le_of_ble_eq_true rfl) ?_
    subst hPR
    exact ⟨_, rfl, EF.rf, Or.inl ⟨⟨hcd.1, hcd.2, trivial⟩, rfl, hE⟩⟩
  · obtain ⟨⟨n9, hn9, rfl⟩, hc9⟩ := ex
    have hU := hE.gN hn9
    rcases hc9 with ⟨c1, rfl⟩ | ⟨c1, c2, rfl⟩ | ⟨c1, c2, c3, rfl⟩
    · refine ⟨8, ⟨[], ⟨0, 7, 8, 15⟩, [⟨0, 7, 13, 18⟩], "java/lang/IndexOutOfBoundsException", htab, (fun z hz => absurd hz List.not_mem_nil), by decide, by decide, cx.2.2.2.2.2.2 _ wL_0, va_tabs rfl rfl (wd.2.2.1 _ wC_0), rfl⟩, fun q9 => ?_⟩
      refine Y.astore cx wd (i := 4) (ls' := [some (rf x), some (vi f), some (vi u), some (vi s), some (rf q9)]) (hd := dL_message_8) (by decide) rfl rfl (pc' := 10) rfl ?_
      refine Y.ldcI cx wd (v := (-2000001)) dL_message_10 kL_17 (pc' := 12) rfl ?_
      refine Y.iret cx dL_message_12 rfl (Nat.le_of_ble_eq_true rfl) (Nat.le_of_ble_eq_true rfl) ?_
      subst hPR
      exact ⟨_, rfl, hU.2, Or.inr ⟨Or.inl ⟨c1, rfl⟩, hU.1⟩⟩
    · refine ⟨13, ⟨[⟨0, 7, 8, 15⟩], ⟨0, 7, 13, 18⟩, [], "java/lang/IllegalArgumentException", htab, (fun z hz => by
          simp only [List.mem_cons, List.not_mem_nil, or_false] at hz
          rcases hz with rfl
          · exact Or.inr ⟨by decide, "java/lang/IndexOutOfBoundsException", cx.2.2.2.2.2.2 _ wL_0, wd.2.2.2.2.2.1 1 0 (by decide) (by decide) (by decide)⟩), by decide, by decide, cx.2.2.2.2.2.2 _ wL_1, va_tabs rfl rfl (wd.2.2.1 _ wC_1), rfl⟩, fun q9 => ?_⟩
      refine Y.astore cx wd (i := 4) (ls' := [some (rf x), some (vi f), some (vi u), some (vi s), some (rf q9)]) (hd := dL_message_13) (by decide) rfl rfl (pc' := 15) rfl ?_
      refine Y.ldcI cx wd (v := (-2000002)) dL_message_15 kL_20 (pc' := 17) rfl ?_
      refine Y.iret cx dL_message_17 rfl (Nat.le_of_ble_eq_true rfl) (Nat.le_of_ble_eq_true rfl) ?_
      subst hPR
      exact ⟨_, rfl, hU.2, Or.inr ⟨Or.inr (Or.inl ⟨c1, c2, rfl⟩), hU.1⟩⟩
    · exact absurd trivial c3
set_option maxHeartbeats 4000000 in
set_option maxRecDepth 100000 in
theorem k_L_said0 {Ω : xO} {h : xM} {x lo : Nat} {L : lS} {n w : Int} (hE : EL h x lo L) (irn : inR n) (irw : inR w) (hv : 0 ≤ n ∧ 0 ≤ w ∧ w ≤ 5) : yCt Ω yL_said cL_said 4 (some .int) [(0, 6, 7, 18)] rm_L_said0 [rf x, vi n, vi w] h (fun q h' => h = h' ∧ q = some (vi (if n < aW (lA L) then oWd (lA L) n w else -1))) := by
  refine yCt_of (by decide +kernel) (Nat.le_of_ble_eq_true rfl) (fun p e s0 m0 args0 below meth c cx wd htab => ?_)
  generalize hPR : (fun q h' => h = h' ∧ q = some (vi (if n < aW (lA L) then oWd (lA L) n w else -1)) : Option xV → xM → Prop) = PR
  have K0 : Y Ω rm_L_said0 (vx_MQ below (xQ Ω PR) (xX Ω xNo) args0 s0 rm_L_said0.cells rm_L_said0.slots (xA Ω)) p e s0 m0 args0 below meth c 4 0 0 0 [some (rf x), some (vi n), some (vi w), none] [] h := ?_
  exact K0
  obtain ⟨irn1, irn2⟩ := id irn
  obtain ⟨irw1, irw2⟩ := id irw
  refine Y.aload_n cx wd (i := 0) rfl rfl dL_said_0 (pc' := 1) rfl ?_
  refine Y.iload_n cx wd (i := 1) rfl rfl dL_said_1 (pc' := 2) rfl ?_
  refine Y.iload_n cx wd (i := 2) rfl rfl dL_said_2 (pc' := 3) rfl ?_
  refine Y.callV cx wd (ci := 5) (a := x) (rm := rm_X5_said0) (As := [vi n, vi w]) (st := []) dL_said_3 ck_L_42 rfl (by decide) hE.1.1 rfl rfl ⟨Nat.le_of_ble_eq_true rfl, Nat.le_of_ble_eq_true rfl⟩ (Nat.le_of_ble_eq_true rfl) (Nat.le_of_ble_eq_true rfl) (Nat.le_of_ble_eq_true rfl) (pc' := 6) rfl (k_X5_said0 hE irn irw hv) (fun q1 h1 e1 => ?_)
  obtain ⟨rfl, -, rfl⟩ := e1
  refine Y.iret cx dL_said_6 rfl (Nat.le_of_ble_eq_true rfl) (Nat.le_of_ble_eq_true rfl) ?_
  subst hPR
  exact ⟨rfl, rfl⟩
set_option maxHeartbeats 4000000 in
set_option maxRecDepth 100000 in
theorem k_L_comes0 {Ω : xO} {h : xM} {x lo : Nat} {L : lS} {n s : Int} (hE : EL h x lo L) (irn : inR n) (irs : inR s) (hv : (0 ≤ s ∧ s < 6) ∧ 0 ≤ n) : yCt Ω yL_comes cL_comes 4 (some .int) [(0, 6, 7, 15), (0, 6, 11, 18)] rm_L_comes0 [rf x, vi n, vi s] h (fun q h' => h = h' ∧ q = some (vi (if n < aW (lA L) then aCo (lA L) s n else -1))) := by
  refine yCt_of (by decide +kernel) (Nat.le_of_ble_eq_true rfl) (fun p e s0 m0 args0 below meth c cx wd htab => ?_)
  generalize hPR : (fun q h' => h = h' ∧ q = some (vi (if n < aW (lA L) then aCo (lA L) s n else -1)) : Option xV → xM → Prop) = PR
  have K0 : Y Ω rm_L_comes0 (vx_MQ below (xQ Ω PR) (xX Ω xNo) args0 s0 rm_L_comes0.cells rm_L_comes0.slots (xA Ω)) p e s0 m0 args0 below meth c 4 0 0 0 [some (rf x), some (vi n), some (vi s), none] [] h := ?_
  exact K0
  obtain ⟨irn1, irn2⟩ := id irn
  obtain ⟨irs1, irs2⟩ := id irs
  refine Y.aload_n cx wd (i := 0) rfl rfl dL_comes_0 (pc' := 1) rfl ?_
  refine Y.iload_n cx wd (i := 1) rfl rfl dL_comes_1 (pc' := 2) rfl ?_
  refine Y.iload_n cx wd (i := 2) rfl rfl dL_comes_2 (pc' := 3) rfl ?_
  refine Y.callV cx wd (ci := 5) (a := x) (rm := rm_X5_comes0) (As := [vi n, vi s]) (st := []) dL_comes_3 ck_L_45 rfl (by decide) hE.1.1 rfl rfl ⟨Nat.le_of_ble_eq_true rfl, Nat.le_of_ble_eq_true rfl⟩ (Nat.le_of_ble_eq_true rfl) (Nat.le_of_ble_eq_true rfl) (Nat.le_of_ble_eq_true rfl) (pc' := 6) rfl (k_X5_comes0 hE irn irs hv) (fun q1 h1 e1 => ?_)
  obtain ⟨rfl, -, rfl⟩ := e1
  refine Y.iret cx dL_comes_6 rfl (Nat.le_of_ble_eq_true rfl) (Nat.le_of_ble_eq_true rfl) ?_
  subst hPR
  exact ⟨rfl, rfl⟩
set_option maxHeartbeats 4000000 in
set_option maxRecDepth 100000 in
theorem k_L_heard0 {Ω : xO} {h : xM} {x lo : Nat} {L : lS} {s k w : Int} (hE : EL h x lo L) (irs : inR s) (irk : inR k) (irw : inR w) (hv : (0 ≤ s ∧ s < 6) ∧ 0 ≤ k ∧ 0 ≤ w ∧ w ≤ 2) : yCt Ω yL_heard cL_heard 5 (some .int) [(0, 7, 8, 15), (0, 7, 13, 18)] rm_L_heard0 [rf x, vi s, vi k, vi w] h (fun q h' => h = h' ∧ q = some (vi (if k < aB (lA L) then oBt (lA L) s k w else -1))) := by
  refine yCt_of (by decide +kernel) (Nat.le_of_ble_eq_true rfl) (fun p e s0 m0 args0 below meth c cx wd htab => ?_)
  generalize hPR : (fun q h' => h = h' ∧ q = some (vi (if k < aB (lA L) then oBt (lA L) s k w else -1)) : Option xV → xM → Prop) = PR
  have K0 : Y Ω rm_L_heard0 (vx_MQ below (xQ Ω PR) (xX Ω xNo) args0 s0 rm_L_heard0.cells rm_L_heard0.slots (xA Ω)) p e s0 m0 args0 below meth c 5 0 0 0 [some (rf x), some (vi s), some (vi k), some (vi w), none] [] h := ?_
  exact K0
  obtain ⟨irs1, irs2⟩ := id irs
  obtain ⟨irk1, irk2⟩ := id irk
  obtain ⟨irw1, irw2⟩ := id irw
  refine Y.aload_n cx wd (i := 0) rfl rfl dL_heard_0 (pc' := 1) rfl ?_
  refine Y.iload_n cx wd (i := 1) rfl rfl dL_heard_1 (pc' := 2) rfl ?_
  refine Y.iload_n cx wd (i := 2) rfl rfl dL_heard_2 (pc' := 3) rfl ?_
  refine Y.iload_n cx wd (i := 3) rfl rfl dL_heard_3 (pc' := 4) rfl ?_
  refine Y.callV cx wd (ci := 5) (a := x) (rm := rm_X5_heard0) (As := [vi s, vi k, vi w]) (st := []) dL_heard_4 ck_L_48 rfl (by decide) hE.1.1 rfl rfl ⟨Nat.le_of_ble_eq_true rfl, Nat.le_of_ble_eq_true rfl⟩ (Nat.le_of_ble_eq_true rfl) (Nat.le_of_ble_eq_true rfl) (Nat.le_of_ble_eq_true rfl) (pc' := 7) rfl (k_X5_heard0 hE irs irk irw hv) (fun q1 h1 e1 => ?_)
  obtain ⟨rfl, -, rfl⟩ := e1
  refine Y.iret cx dL_heard_7 rfl (Nat.le_of_ble_eq_true rfl) (Nat.le_of_ble_eq_true rfl) ?_
  subst hPR
  exact ⟨rfl, rfl⟩
set_option maxHeartbeats 4000000 in
set_option maxRecDepth 100000 in
theorem k_L_speaker0 {Ω : xO} {h : xM} {x lo : Nat} {L : lS} {s w : Int} (hE : EL h x lo L) (irs : inR s) (irw : inR w) (hv : (0 ≤ s ∧ s < 6) ∧ 0 ≤ w ∧ w ≤ 7) : yCt Ω yL_speaker cL_speaker 4 (some .int) [(0, 6, 7, 15), (0, 6, 11, 18)] rm_L_speaker0 [rf x, vi s, vi w] h (fun q h' => h = h' ∧ q = some (vi (oSp (lA L) s w))) := by
  refine yCt_of (by decide +kernel) (Nat.le_of_ble_eq_true rfl) (fun p e s0 m0 args0 below meth c cx wd htab => ?_)
  generalize hPR : (fun q h' => h = h' ∧ q = some (vi (oSp (lA L) s w)) : Option xV → xM → Prop) = PR
  have K0 : Y Ω rm_L_speaker0 (vx_MQ below (xQ Ω PR) (xX Ω xNo) args0 s0 rm_L_speaker0.cells rm_L_speaker0.slots (xA Ω)) p e s0 m0 args0 below meth c 4 0 0 0 [some (rf x), some (vi s), some (vi w), none] [] h := ?_
  exact K0
  obtain ⟨irs1, irs2⟩ := id irs
  obtain ⟨irw1, irw2⟩ := id irw
  refine Y.aload_n cx wd (i := 0) rfl rfl dL_speaker_0 (pc' := 1) rfl ?_
  refine Y.iload_n cx wd (i := 1) rfl rfl dL_speaker_1 (pc' := 2) rfl ?_
  refine Y.iload_n cx wd (i := 2) rfl rfl dL_speaker_2 (pc' := 3) rfl ?_
  refine Y.callV cx wd (ci := 5) (a := x) (rm := rm_X5_speaker0) (As := [vi s, vi w]) (st := []) dL_speaker_3 ck_L_51 rfl (by decide) hE.1.1 rfl rfl ⟨Nat.le_of_ble_eq_true rfl, Nat.le_of_ble_eq_true rfl⟩ (Nat.le_of_ble_eq_true rfl) (Nat.le_of_ble_eq_true rfl) (Nat.le_of_ble_eq_true rfl) (pc' := 6) rfl (k_X5_speaker0 hE irs irw hv) (fun q1 h1 e1 => ?_)
  obtain ⟨rfl, -, rfl⟩ := e1
  refine Y.iret cx dL_speaker_6 rfl (Nat.le_of_ble_eq_true rfl) (Nat.le_of_ble_eq_true rfl) ?_
  subst hPR
  exact ⟨rfl, rfl⟩
set_option maxHeartbeats 4000000 in
set_option maxRecDepth 100000 in
theorem k_L_message0 {Ω : xO} {h : xM} {x lo : Nat} {L : lS} {f m s : Int} (hE : EL h x lo L) (irf : inR f) (irm : inR m) (irs : inR s) (hv : ((0 ≤ f ∧ f < 6) ∧ (0 ≤ s ∧ s < 6)) ∧ 0 ≤ m ∧ m ≤ 9) : yCt Ω yL_message cL_message 5 (some .int) [(0, 7, 8, 15), (0, 7, 13, 18)] rm_L_message0 [rf x, vi f, vi m, vi s] h (fun q h' => h = h' ∧ q = some (vi (how (lA L) f m s))) := by
  refine yCt_of (by decide +kernel) (Nat.le_of_ble_eq_true rfl) (fun p e s0 m0 args0 below meth c cx wd htab => ?_)
  generalize hPR : (fun q h' => h = h' ∧ q = some (vi (how (lA L) f m s)) : Option xV → xM → Prop) = PR
  have K0 : Y Ω rm_L_message0 (vx_MQ below (xQ Ω PR) (xX Ω xNo) args0 s0 rm_L_message0.cells rm_L_message0.slots (xA Ω)) p e s0 m0 args0 below meth c 5 0 0 0 [some (rf x), some (vi f), some (vi m), some (vi s), none] [] h := ?_
  exact K0
  obtain ⟨irf1, irf2⟩ := id irf
  obtain ⟨irm1, irm2⟩ := id irm
  obtain ⟨irs1, irs2⟩ := id irs
  refine Y.aload_n cx wd (i := 0) rfl rfl dL_message_0 (pc' := 1) rfl ?_
  refine Y.iload_n cx wd (i := 1) rfl rfl dL_message_1 (pc' := 2) rfl ?_
  refine Y.iload_n cx wd (i := 2) rfl rfl dL_message_2 (pc' := 3) rfl ?_
  refine Y.iload_n cx wd (i := 3) rfl rfl dL_message_3 (pc' := 4) rfl ?_
  refine Y.callV cx wd (ci := 5) (a := x) (rm := rm_X5_message0) (As := [vi f, vi m, vi s]) (st := []) dL_message_4 ck_L_54 rfl (by decide) hE.1.1 rfl rfl ⟨Nat.le_of_ble_eq_true rfl, Nat.le_of_ble_eq_true rfl⟩ (Nat.le_of_ble_eq_true rfl) (Nat.le_of_ble_eq_true rfl) (Nat.le_of_ble_eq_true rfl) (pc' := 7) rfl (k_X5_message0 hE irf irm irs hv) (fun q1 h1 e1 => ?_)
  obtain ⟨rfl, -, rfl⟩ := e1
  refine Y.iret cx dL_message_7 rfl (Nat.le_of_ble_eq_true rfl) (Nat.le_of_ble_eq_true rfl) ?_
  subst hPR
  exact ⟨rfl, rfl⟩
set_option maxHeartbeats 4000000 in
set_option maxRecDepth 100000 in
theorem k_L_count0 {Ω : xO} {h : xM} {x lo : Nat} {L : lS} {w : Int} (hE : EL h x lo L) (irw : inR w) (hv : 0 ≤ w ∧ w ≤ 9) : yCt Ω yL_count cL_count 3 (some .int) [(0, 5, 6, 18)] rm_L_count0 [rf x, vi w] h (fun q h' => h = h' ∧ q = some (vi (if w = 9 then lZ L else oAl (lA L) w))) := by
  refine yCt_of (by decide +kernel) (Nat.le_of_ble_eq_true rfl) (fun p e s0 m0 args0 below meth c cx wd htab => ?_)
  generalize hPR : (fun q h' => h = h' ∧ q = some (vi (if w = 9 then lZ L else oAl (lA L) w)) : Option xV → xM → Prop) = PR
  have K0 : Y Ω rm_L_count0 (vx_MQ below (xQ Ω PR) (xX Ω xNo) args0 s0 rm_L_count0.cells rm_L_count0.slots (xA Ω)) p e s0 m0 args0 below meth c 3 0 0 0 [some (rf x), some (vi w), none] [] h := ?_
  exact K0
  obtain ⟨irw1, irw2⟩ := id irw
  refine Y.aload_n cx wd (i := 0) rfl rfl dL_count_0 (pc' := 1) rfl ?_
  refine Y.iload_n cx wd (i := 1) rfl rfl dL_count_1 (pc' := 2) rfl ?_
  refine Y.callV cx wd (ci := 5) (a := x) (rm := rm_X5_count0) (As := [vi w]) (st := []) dL_count_2 ck_L_57 rfl (by decide) hE.1.1 rfl rfl ⟨Nat.le_of_ble_eq_true rfl, Nat.le_of_ble_eq_true rfl⟩ (Nat.le_of_ble_eq_true rfl) (Nat.le_of_ble_eq_true rfl) (Nat.le_of_ble_eq_true rfl) (pc' := 5) rfl (k_X5_count0 hE irw hv) (fun q1 h1 e1 => ?_)
  obtain ⟨rfl, -, rfl⟩ := e1
  refine Y.iret cx dL_count_5 rfl (Nat.le_of_ble_eq_true rfl) (Nat.le_of_ble_eq_true rfl) ?_
  subst hPR
  exact ⟨rfl, rfl⟩
set_option maxHeartbeats 4000000 in
set_option maxRecDepth 100000 in
theorem k_L_whyNot0 {Ω : xO} {h : xM} {x lo : Nat} {L : lS} {n s : Int} (hE : EL h x lo L) (irn : inR n) (irs : inR s) (hv : (0 ≤ s ∧ s < 6) ∧ 0 ≤ n) : yCt Ω yL_whyNot cL_whyNot 4 (some .int) [(0, 6, 7, 15), (0, 6, 11, 18)] rm_L_whyNot0 [rf x, vi n, vi s] h (fun q h' => h = h' ∧ q = some (vi (if n < aW (lA L) then why (lA L) n s else -1))) := by
  refine yCt_of (by decide +kernel) (Nat.le_of_ble_eq_true rfl) (fun p e s0 m0 args0 below meth c cx wd htab => ?_)
  generalize hPR : (fun q h' => h = h' ∧ q = some (vi (if n < aW (lA L) then why (lA L) n s else -1)) : Option xV → xM → Prop) = PR
  have K0 : Y Ω rm_L_whyNot0 (vx_MQ below (xQ Ω PR) (xX Ω xNo) args0 s0 rm_L_whyNot0.cells rm_L_whyNot0.slots (xA Ω)) p e s0 m0 args0 below meth c 4 0 0 0 [some (rf x), some (vi n), some (vi s), none] [] h := ?_
  exact K0
  obtain ⟨irn1, irn2⟩ := id irn
  obtain ⟨irs1, irs2⟩ := id irs
  refine Y.aload_n cx wd (i := 0) rfl rfl dL_whyNot_0 (pc' := 1) rfl ?_
  refine Y.iload_n cx wd (i := 1) rfl rfl dL_whyNot_1 (pc' := 2) rfl ?_
  refine Y.iload_n cx wd (i := 2) rfl rfl dL_whyNot_2 (pc' := 3) rfl ?_
  refine Y.callV cx wd (ci := 5) (a := x) (rm := rm_X5_whyNot0) (As := [vi n, vi s]) (st := []) dL_whyNot_3 ck_L_60 rfl (by decide) hE.1.1 rfl rfl ⟨Nat.le_of_ble_eq_true rfl, Nat.le_of_ble_eq_true rfl⟩ (Nat.le_of_ble_eq_true rfl) (Nat.le_of_ble_eq_true rfl) (Nat.le_of_ble_eq_true rfl) (pc' := 6) rfl (k_X5_whyNot0 hE irn irs hv) (fun q1 h1 e1 => ?_)
  obtain ⟨rfl, -, rfl⟩ := e1
  refine Y.iret cx dL_whyNot_6 rfl (Nat.le_of_ble_eq_true rfl) (Nat.le_of_ble_eq_true rfl) ?_
  subst hPR
  exact ⟨rfl, rfl⟩
set_option maxHeartbeats 4000000 in
set_option maxRecDepth 100000 in
theorem k_L_ifSilent0 {Ω : xO} {h : xM} {x lo : Nat} {L : lS} {s : Int} (hE : EL h x lo L) (irs : inR s) (hv : 0 ≤ s ∧ s < 6) : yCt Ω yL_ifSilent cL_ifSilent 3 (some .int) [(0, 5, 6, 15)] rm_L_ifSilent0 [rf x, vi s] h (fun q h' => h = h' ∧ q = some (vi (vce (lA L) s (aB (lA L))))) := by
  refine yCt_of (by decide +kernel) (Nat.le_of_ble_eq_true rfl) (fun p e s0 m0 args0 below meth c cx wd htab => ?_)
  generalize hPR : (fun q h' => h = h' ∧ q = some (vi (vce (lA L) s (aB (lA L)))) : Option xV → xM → Prop) = PR
  have K0 : Y Ω rm_L_ifSilent0 (vx_MQ below (xQ Ω PR) (xX Ω xNo) args0 s0 rm_L_ifSilent0.cells rm_L_ifSilent0.slots (xA Ω)) p e s0 m0 args0 below meth c 3 0 0 0 [some (rf x), some (vi s), none] [] h := ?_
  exact K0
  obtain ⟨irs1, irs2⟩ := id irs
  refine Y.aload_n cx wd (i := 0) rfl rfl dL_ifSilent_0 (pc' := 1) rfl ?_
  refine Y.iload_n cx wd (i := 1) rfl rfl dL_ifSilent_1 (pc' := 2) rfl ?_
  refine Y.callV cx wd (ci := 5) (a := x) (rm := rm_X5_ifSilent0) (As := [vi s]) (st := []) dL_ifSilent_2 ck_L_63 rfl (by decide) hE.1.1 rfl rfl ⟨Nat.le_of_ble_eq_true rfl, Nat.le_of_ble_eq_true rfl⟩ (Nat.le_of_ble_eq_true rfl) (Nat.le_of_ble_eq_true rfl) (Nat.le_of_ble_eq_true rfl) (pc' := 5) rfl (k_X5_ifSilent0 hE irs hv) (fun q1 h1 e1 => ?_)
  obtain ⟨rfl, -, rfl⟩ := e1
  refine Y.iret cx dL_ifSilent_5 rfl (Nat.le_of_ble_eq_true rfl) (Nat.le_of_ble_eq_true rfl) ?_
  subst hPR
  exact ⟨rfl, rfl⟩
set_option maxHeartbeats 4000000 in
set_option maxRecDepth 100000 in
theorem k_L_heardIn0 {Ω : xO} {h : xM} {x lo : Nat} {L : lS} {n s : Int} (hE : EL h x lo L) (irn : inR n) (irs : inR s) (hv : (0 ≤ s ∧ s < 6) ∧ 0 ≤ n) : yCt Ω yL_heardIn cL_heardIn 4 (some .int) [(0, 6, 7, 15), (0, 6, 11, 18)] rm_L_heardIn0 [rf x, vi n, vi s] h (fun q h' => h = h' ∧ q = some (vi (if n < aW (lA L) then sil (lA L) n s else -1))) := by
  refine yCt_of (by decide +kernel) (Nat.le_of_ble_eq_true rfl) (fun p e s0 m0 args0 below meth c cx wd htab => ?_)
  generalize hPR : (fun q h' => h = h' ∧ q = some (vi (if n < aW (lA L) then sil (lA L) n s else -1)) : Option xV → xM → Prop) = PR
  have K0 : Y Ω rm_L_heardIn0 (vx_MQ below (xQ Ω PR) (xX Ω xNo) args0 s0 rm_L_heardIn0.cells rm_L_heardIn0.slots (xA Ω)) p e s0 m0 args0 below meth c 4 0 0 0 [some (rf x), some (vi n), some (vi s), none] [] h := ?_
  exact K0
  obtain ⟨irn1, irn2⟩ := id irn
  obtain ⟨irs1, irs2⟩ := id irs
  refine Y.aload_n cx wd (i := 0) rfl rfl dL_heardIn_0 (pc' := 1) rfl ?_
  refine Y.iload_n cx wd (i := 1) rfl rfl dL_heardIn_1 (pc' := 2) rfl ?_
  refine Y.iload_n cx wd (i := 2) rfl rfl dL_heardIn_2 (pc' := 3) rfl ?_
  refine Y.callV cx wd (ci := 5) (a := x) (rm := rm_X5_heardIn0) (As := [vi n, vi s]) (st := []) dL_heardIn_3 ck_L_66 rfl (by decide) hE.1.1 rfl rfl ⟨Nat.le_of_ble_eq_true rfl, Nat.le_of_ble_eq_true rfl⟩ (Nat.le_of_ble_eq_true rfl) (Nat.le_of_ble_eq_true rfl) (Nat.le_of_ble_eq_true rfl) (pc' := 6) rfl (k_X5_heardIn0 hE irn irs hv) (fun q1 h1 e1 => ?_)
  obtain ⟨rfl, -, rfl⟩ := e1
  refine Y.iret cx dL_heardIn_6 rfl (Nat.le_of_ble_eq_true rfl) (Nat.le_of_ble_eq_true rfl) ?_
  subst hPR
  exact ⟨rfl, rfl⟩
